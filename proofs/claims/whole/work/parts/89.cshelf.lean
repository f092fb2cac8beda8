/-! THE CLASS: put, element, shift, taken -/
theorem rf_b {b : MB} {dd i : Int32} (h : inR 0 (nI 5) dd = false) : refS b dd i = -1 := by unfold refS; rw [h]; rfl
theorem rf_i {b : MB} {q : Nat} {i : Int32} (hq : q < 6) : refS b (nI q) i = if gShelf b q < 0 then -11 else if gShelf b q < nI 50 then -12 else if 0 ≤ i ∧ i < nI (gMany b q) then 0 else -13 := by
  unfold refS
  rw [if_pos (show inR 0 (nI 5) (nI q) = true by rw [inR_nI (by decide) (by omega)]; exact decide_eq_true (by omega)), iN_nI (by omega)]
theorem hp_t {sz : Nat} {i n : Int32} (h : hpS sz i n = true) : ∃ i1 n1, i = nI i1 ∧ n = nI n1 ∧ i1 + n1 ≤ sz ∧ i1 < 2147483648 ∧ n1 < 2147483648 := by
  unfold hpS at h
  obtain ⟨h1, h2⟩ := Bool.and_eq_true_iff.mp h
  obtain ⟨h2a, h3⟩ := Bool.and_eq_true_iff.mp h2
  have h3 := of_decide_eq_true h3
  obtain ⟨i1, hi, rfl⟩ := nn_nI (Int32.not_lt.mpr (of_decide_eq_true h1))
  obtain ⟨n1, hn, rfl⟩ := nn_nI (Int32.not_lt.mpr (of_decide_eq_true h2a))
  rw [iN_nI hi, iN_nI hn] at h3
  exact ⟨i1, n1, rfl, rfl, h3, hi, hn⟩
theorem hp_ok {sz i1 n1 : Nat} (h : i1 + n1 ≤ sz) (hi : i1 < 2147483648) (hn : n1 < 2147483648) : hpS sz (nI i1) (nI n1) = true := by
  unfold hpS
  have z : ∀ m, m < 2147483648 → (0 : Int32) ≤ nI m := fun m hm => Int32.not_lt.mp (nI_nn hm)
  rw [decide_eq_true (z i1 hi), decide_eq_true (z n1 hn), iN_nI hi, iN_nI hn, decide_eq_true h]; rfl
theorem hp_1 {sz : Nat} {i : Int32} (hs : sz ≤ 60) : hpS sz i (nI 1) = true ↔ 0 ≤ i ∧ i < nI sz := by
  constructor
  · intro h
    obtain ⟨i1, n1, rfl, e, h3, hi, hn⟩ := hp_t h
    have e : 1 = n1 := (nI_eq (by decide) hn).mp e
    exact ⟨Int32.not_lt.mp (nI_nn hi), (nI_ltI hi (by omega)).mpr (by omega)⟩
  · rintro ⟨h1, h2⟩
    obtain ⟨i1, hi, rfl⟩ := nn_nI (Int32.not_lt.mpr h1)
    have := (nI_ltI hi (by omega)).mp h2
    exact hp_ok (by omega) hi (by decide)
set_option maxRecDepth 100000 in
set_option maxHeartbeats 4000000 in
theorem p_place {G : Cx} {d c : Nat} {h h0 : List va_E} {b : MB} {v : Cv} {F : Lf} {Q : Option Value → List va_E → Prop} (hd : 4 ≤ d) (hz : gz G = false) (hC : COb G h0 h b v F c) {dd i : Int32} (k0 : ¬ refS b dd i = 0 → Q (some (.int (refS b dd i))) h) (k1 : ∀ q n s, q < 6 → dd = nI q → i = nI n → n < gMany b q → s < 5 → gShelf b q = nI (50 + s) → Q (some (.int (nI 0))) h) : AM G yX11_placeRefusal cX11_placeRefusal 3 (some .int) d 0 0 [.ref (gB G + 0), .int (dd), .int (i)] h Q := by
  obtain ⟨d, rfl, he⟩ := dpos hd
  refine AM.of [some (.ref (gB G + 0)), some (.int (dd)), some (.int (i))] pnX11 (Nat.le_of_ble_eq_true rfl) (by simp [lsub, lvI, Value.category]) ?_
  refine a_iloadn_1 (pc := 0) dX11_placeRefusal_0 ?_
  refine cs_X11_97 (pc := 1) rfl dX11_placeRefusal_1 (Nat.le_of_ble_eq_true rfl) ?_
  refine p_isShelf (by omega) hz ?_
  refine b_if_ne (pc := 4) (tgt := 9) dX11_placeRefusal_4 (by decide) (fun c_4 => ?_) (fun c_4 => ?_)
  · obtain ⟨n_dd, h_dd, rfl⟩ := inR_of (by decide) c_4
    have i_dd : iN (nI n_dd) = n_dd := iN_nI (by omega)
    refine a_aloadn_0 (pc := 9) dX11_placeRefusal_9 ?_
    refine gf_X11_81 (pc := 10) rfl dX11_placeRefusal_10 hC.c0 ?_
    refine a_iloadn_1 (pc := 13) dX11_placeRefusal_13 ?_
    obtain ⟨sc, rw9, so, sz, el, S0, R0⟩ := hC.toQ (q := n_dd) (by omega)
    have hB := hC.2.1.2.2.2.1.1
    have hS := hC.2.1.2.2.2.1
    obtain ⟨hS1, hS2⟩ := hS
    refine sl_65 (j := n_dd) hC.c65 dX11_placeRefusal_14 (by omega) ?_
    refine cv_X11_105 (pc := 15) rfl dX11_placeRefusal_15 S0.2.2.1 (Nat.le_of_ble_eq_true rfl) ?_
    refine s_isEmpty (by omega) hz S0 ?_
    refine b_if_eq (pc := 18) (tgt := 24) dX11_placeRefusal_18 (by decide) (fun c_18 => ?_) (fun c_18 => ?_)
    · have g0 : ¬ gShelf b n_dd < 0 := fun z => by rw [(shr_e hB R0).mpr z] at c_18; cases c_18
      refine a_aloadn_0 (pc := 24) dX11_placeRefusal_24 ?_
      refine gf_X11_81 (pc := 25) rfl dX11_placeRefusal_25 hC.c0 ?_
      refine a_iloadn_1 (pc := 28) dX11_placeRefusal_28 ?_
      refine sl_65 (j := n_dd) hC.c65 dX11_placeRefusal_29 (by omega) ?_
      refine cv_X11_315 (pc := 30) rfl dX11_placeRefusal_30 S0.2.2.1 (Nat.le_of_ble_eq_true rfl) ?_
      refine s_isRow (by omega) hz S0 ?_
      refine b_if_ne (pc := 33) (tgt := 39) dX11_placeRefusal_33 (by decide) (fun c_33 => ?_) (fun c_33 => ?_)
      · have g1 := (shr_r hB R0 g0).mp c_33
        have g2 : gShelf b n_dd = nI (50 + so) := by
          rcases shr_kind hB R0 with ⟨a1, _⟩ | ⟨_, _, _, a4⟩
          · rw [a1] at c_33; cases c_33
          · exact a4
        obtain ⟨_, e2, e3, e4⟩ := shr_el hB R0 R0.1 g2
        subst e2
        have m60 := (hS2 n_dd (by omega)).2
        refine a_aloadn_0 (pc := 39) dX11_placeRefusal_39 ?_
        refine gf_X11_81 (pc := 40) rfl dX11_placeRefusal_40 hC.c0 ?_
        refine a_iloadn_1 (pc := 43) dX11_placeRefusal_43 ?_
        refine sl_65 (j := n_dd) hC.c65 dX11_placeRefusal_44 (by omega) ?_
        refine a_iloadn_2 (pc := 45) dX11_placeRefusal_45 ?_
        refine a_iconst (pc := 46) (v := nI 1) dX11_placeRefusal_46 (by decide) ?_
        refine cv_X11_321 (pc := 47) rfl dX11_placeRefusal_47 S0.2.2.1 (Nat.le_of_ble_eq_true rfl) ?_
        refine s_hasPlaces (by omega) hz S0 ?_
        refine b_if_eq (pc := 50) (tgt := 57) dX11_placeRefusal_50 (by decide) (fun c_50 => ?_) (fun c_50 => ?_)
        · have g3 : ¬ (0 ≤ i ∧ i < nI (gMany b n_dd)) := fun z => by rw [(hp_1 m60).mpr z] at c_50; cases c_50
          refine a_bipush (pc := 57) (v := (-13)) dX11_placeRefusal_57 (by decide) ?_
          exact a_iret (pc := 59) dX11_placeRefusal_59 rfl (zf hz) (by have e := (rf_i (b := b) (q := n_dd) (i := i) (by omega)).trans ((if_neg g0).trans ((if_neg g1).trans (if_neg g3))); have k0 := k0; rw [e] at k0; exact k0 (by decide))
        · obtain ⟨i1, n1, hi1, hn1, hle, hib, _⟩ := hp_t c_50
          have hn2 : n1 = 1 := ((nI_eq (by decide) (by omega)).mp hn1).symm
          refine a_iconst (pc := 53) (v := nI 0) dX11_placeRefusal_53 (by decide) ?_
          refine a_goto (pc := 54) (tgt := 59) dX11_placeRefusal_54 (by decide) ?_
          exact a_iret (pc := 59) dX11_placeRefusal_59 rfl (zf hz) (k1 n_dd i1 so (by omega) rfl hi1 (by omega) R0.1 g2)
      · have g1 : gShelf b n_dd < nI 50 := Classical.byContradiction (fun z => by rw [(shr_r hB R0 g0).mpr z] at c_33; cases c_33)
        refine a_bipush (pc := 36) (v := (-12)) dX11_placeRefusal_36 (by decide) ?_
        exact a_iret (pc := 38) dX11_placeRefusal_38 rfl (zf hz) (by have e := (rf_i (b := b) (q := n_dd) (i := i) (by omega)).trans ((if_neg g0).trans (if_pos g1)); have k0 := k0; rw [e] at k0; exact k0 (by decide))
    · have g0 := (shr_e hB R0).mp c_18
      refine a_bipush (pc := 21) (v := (-11)) dX11_placeRefusal_21 (by decide) ?_
      exact a_iret (pc := 23) dX11_placeRefusal_23 rfl (zf hz) (by have e := (rf_i (b := b) (q := n_dd) (i := i) (by omega)).trans (if_pos g0); have k0 := k0; rw [e] at k0; exact k0 (by decide))
  · refine a_iconst (pc := 7) (v := (-1)) dX11_placeRefusal_7 (by decide) ?_
    exact a_iret (pc := 8) dX11_placeRefusal_8 rfl (zf hz) (by have e := rf_b (b := b) (i := i) c_4; have k0 := k0; rw [e] at k0; exact k0 (by decide))
set_option maxRecDepth 100000 in
set_option maxHeartbeats 4000000 in
theorem p_put {G : Cx} {d c : Nat} {h h0 : List va_E} {b : MB} {v : Cv} {F : Lf} {Q : Option Value → List va_E → Prop} (hd : 6 ≤ d) (hz : gz G = false) (hC : COb G h0 h b v F c) {dd i : Int32} {x : Int64} (k0 : ¬ refS b dd i = 0 → COb G h0 h b v F c → Q (some (.int (refS b dd i))) h) (k1 : ∀ q n s, q < 6 → dd = nI q → i = nI n → n < gMany b q → s < 5 → gShelf b q = nI (50 + s) → ∀ h1, COb G h0 h1 (uItems b (vp_updL (gItems b) (60 * q + n) (asS s x))) v F c → Q (some (.int (nI 1))) h1) : AM G yX11_put cX11_put 6 (some .int) d 0 0 [.ref (gB G + 0), .int (dd), .int (i), .long (x)] h Q := by
  obtain ⟨d, rfl, he⟩ := dpos hd
  refine AM.of [some (.ref (gB G + 0)), some (.int (dd)), some (.int (i)), some (.long (x)), none, none] pnX11 (Nat.le_of_ble_eq_true rfl) (by simp [lsub, lvI, Value.category]) ?_
  refine a_aloadn_0 (pc := 0) dX11_put_0 ?_
  refine a_iloadn_1 (pc := 1) dX11_put_1 ?_
  refine a_iloadn_2 (pc := 2) dX11_put_2 ?_
  refine cv_X11_304 (pc := 3) rfl dX11_put_3 hC.c0 (Nat.le_of_ble_eq_true rfl) ?_
  refine p_place (by omega) hz hC (fun hne => ?_) (fun q n s hq hdd hi hn hs hsh => ?_)
  · refine a_istore_5 (pc := 6) dX11_put_6 (by decide) (by first | rfl | trivial) ?_
    refine a_iload_5 (pc := 8) dX11_put_8 ?_
    refine a_if_eq (pc := 10) (tgt := 16) dX11_put_10 (by decide) (fun c_10 => absurd c_10 hne) (fun c_10 => ?_)
    refine a_iload_5 (pc := 13) dX11_put_13 ?_
    exact a_iret (pc := 15) dX11_put_15 rfl (zf hz) (k0 hne hC)
  · subst hdd hi
    refine a_istore_5 (pc := 6) dX11_put_6 (by decide) (by first | rfl | trivial) ?_
    refine a_iload_5 (pc := 8) dX11_put_8 ?_
    refine n_if_eq (tgt := 16) dX11_put_10 (by decide) (by decide) (fun c_10 => ?_) (fun c_10 => by omega)
    refine a_aloadn_0 (pc := 16) dX11_put_16 ?_
    refine gf_X11_81 (pc := 17) rfl dX11_put_17 hC.c0 ?_
    refine a_iloadn_1 (pc := 20) dX11_put_20 ?_
    obtain ⟨sc, rw9, so, sz, el, S0, R0⟩ := hC.toQ (q := q) hq
    have hB := hC.2.1.2.2.2.1.1
    have hS := hC.2.1.2.2.2.1
    obtain ⟨hS1, hS2⟩ := hS
    have m60 := (hS2 q hq).2
    obtain ⟨e1, e2, e3, e4⟩ := shr_el hB R0 hs hsh
    have e5 := (Bool.and_eq_true_iff.mp ((shr_o hB R0 hs).mpr hsh)).1
    subst e1 e2
    refine sl_65 (j := q) hC.c65 dX11_put_21 (by omega) ?_
    refine a_iloadn_2 (pc := 22) dX11_put_22 ?_
    refine a_lloadn_3 (pc := 23) dX11_put_23 ?_
    refine cv_X11_307 (pc := 24) rfl dX11_put_24 S0.2.2.1 (Nat.le_of_ble_eq_true rfl) ?_
    refine s_set (by omega) hz S0 (by omega) hs (fun h1 H1 => ?_)
    have hC1 := COb.sh (q := q) (sh := gShelf b) (my := gMany b) (it := vp_updL (gItems b) (60 * q + n) (asS so x)) hq H1 ⟨hs, Or.inr ⟨e5, hsh, rfl, fun j hj => (by
      show vp_updL el n _ j = vp_updL (gItems b) (60 * q + n) _ (60 * q + j)
      by_cases z : j = n
      · rw [z, vupL_eq, vupL_eq]
      · rw [vupL_ne z, vupL_ne (by omega)]; exact e3 j hj), fun h0 j hj => (by
      show BYt (vp_updL (gItems b) (60 * q + n) (asS so x) (60 * q + j))
      by_cases z : j = n
      · rw [z, vupL_eq, h0]; exact BYt_as x
      · rw [vupL_ne (by omega)]; exact e4 h0 j hj)⟩⟩ (fun i hi hne => ⟨rfl, rfl, fun j hj => vupL_ne (by omega)⟩) ⟨hS1, hS2⟩ hC
    refine a_iconst (pc := 27) (v := nI 1) dX11_put_27 (by decide) ?_
    exact a_iret (pc := 28) dX11_put_28 rfl (zf hz) (k1 q n so hq rfl rfl hn hs hsh _ hC1)
set_option maxRecDepth 100000 in
set_option maxHeartbeats 4000000 in
theorem p_element {G : Cx} {d c : Nat} {h h0 : List va_E} {b : MB} {v : Cv} {F : Lf} {Q : Option Value → List va_E → Prop} (hd : 6 ≤ d) (hz : gz G = false) (hC : COb G h0 h b v F c) {dd i : Int32} (k0 : ¬ refS b dd i = 0 → COb G h0 h b v F c → Q (some (.long (-9223372036854775808))) h) (k1 : ∀ q n s, q < 6 → dd = nI q → i = nI n → n < gMany b q → s < 5 → gShelf b q = nI (50 + s) → COb G h0 h b v F c → Q (some (.long (gItems b (60 * q + n)))) h) : AM G yX11_element cX11_element 3 (some .long) d 0 0 [.ref (gB G + 0), .int (dd), .int (i)] h Q := by
  obtain ⟨d, rfl, he⟩ := dpos hd
  refine AM.of [some (.ref (gB G + 0)), some (.int (dd)), some (.int (i))] pnX11 (Nat.le_of_ble_eq_true rfl) (by simp [lsub, lvI, Value.category]) ?_
  refine a_aloadn_0 (pc := 0) dX11_element_0 ?_
  refine a_iloadn_1 (pc := 1) dX11_element_1 ?_
  refine a_iloadn_2 (pc := 2) dX11_element_2 ?_
  refine cv_X11_304 (pc := 3) rfl dX11_element_3 hC.c0 (Nat.le_of_ble_eq_true rfl) ?_
  refine p_place (by omega) hz hC (fun hne => ?_) (fun q n s hq hdd hi hn hs hsh => ?_)
  · refine a_if_eq (pc := 6) (tgt := 15) dX11_element_6 (by decide) (fun c_6 => absurd c_6 hne) (fun c_6 => ?_)
    refine a_ldc2 (pc := 9) dX11_element_9 w_624 ?_
    refine a_goto (pc := 12) (tgt := 25) dX11_element_12 (by decide) ?_
    exact a_lret (pc := 25) dX11_element_25 rfl (zf hz) (k0 hne hC)
  · subst hdd hi
    refine n_if_eq (tgt := 15) dX11_element_6 (by decide) (by decide) (fun c_6 => ?_) (fun c_6 => by omega)
    refine a_aloadn_0 (pc := 15) dX11_element_15 ?_
    refine gf_X11_81 (pc := 16) rfl dX11_element_16 hC.c0 ?_
    refine a_iloadn_1 (pc := 19) dX11_element_19 ?_
    obtain ⟨sc, rw9, so, sz, el, S0, R0⟩ := hC.toQ (q := q) hq
    have hB := hC.2.1.2.2.2.1.1
    have hS := hC.2.1.2.2.2.1
    obtain ⟨hS1, hS2⟩ := hS
    have m60 := (hS2 q hq).2
    obtain ⟨e1, e2, e3, e4⟩ := shr_el hB R0 hs hsh
    have e5 := (Bool.and_eq_true_iff.mp ((shr_o hB R0 hs).mpr hsh)).1
    subst e1 e2
    refine sl_65 (j := q) hC.c65 dX11_element_20 (by omega) ?_
    refine a_iloadn_2 (pc := 21) dX11_element_21 ?_
    refine cv_X11_311 (pc := 22) rfl dX11_element_22 S0.2.2.1 (Nat.le_of_ble_eq_true rfl) ?_
    refine s_at (by omega) hz S0.2.2 (by omega) ?_
    refine a_topl (gItems b (60 * q + n)) (by rw [if_pos hn]; exact e3 n (by omega)) ?_
    exact a_lret (pc := 25) dX11_element_25 rfl (zf hz) (k1 q n so hq rfl rfl hn hs hsh hC)
