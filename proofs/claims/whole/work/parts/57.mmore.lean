/-! THE REFERENCE: of, feed, law, image, back, hour, taken, count -/
set_option maxRecDepth 100000 in
set_option maxHeartbeats 4000000 in
theorem m_of {G : Cx} {d : Nat} {h h0 : List va_E} {b : MB} {p : MP} {t : MT} {o : MO} {Q : Option Value → List va_E → Prop} (hd : 4 ≤ d) (hz : gz G = false) (hm : MS G h0 h (b, p, t, o)) {v : Cv} (hb : BV (b, p, t, o) v) (okv : okC v) {n w : Int32} (k0 : ((whO n w = none ∧ ¬ w = nI 7) ∨ (whO n w = none ∧ inR 0 (nI 35) n = false)) → Q (some (.int (-1))) h) (k1 : ∀ wh, whO n w = some wh → Q (some (.int (nI (gMay b wh)))) h) (k2 : ∀ m, whO n w = none → w = nI 7 → m < 36 → n = nI m → Q (some (.int (bI (clit v m)))) h) : AM G yX12_of cX12_of 4 (some .int) d 0 0 [.ref (gB G + 80), .int n, .int w] h Q := by
  obtain ⟨d, rfl, he⟩ := dpos hd
  refine AM.of [some (.ref (gB G + 80)), some (.int (n)), some (.int (w)), none] pnX12 (Nat.le_of_ble_eq_true rfl) (by simp [lsub, lvI, Value.category]) ?_
  refine a_iloadn_1 (pc := 0) dX12_of_0 ?_
  refine a_iloadn_2 (pc := 1) dX12_of_1 ?_
  refine cs_X12_122 (pc := 2) rfl dX12_of_2 (Nat.le_of_ble_eq_true rfl) ?_
  refine m_placeOf (by omega) hz ?_
  obtain ⟨wh, hwh⟩ : ∃ wh, whO n w = wh := ⟨_, rfl⟩
  rw [hwh]
  refine a_istoren_3 (pc := 5) dX12_of_5 (by decide) (by first | rfl | trivial) ?_
  cases wh with
  | none =>
    refine a_iloadn_3 (pc := 6) dX12_of_6 ?_
    refine a_if_lt (pc := 7) (tgt := 19) dX12_of_7 (by decide) (fun c_7 => ?_) (fun c_7 => absurd (show oI none < 0 by decide) c_7)
    refine a_iloadn_2 (pc := 19) dX12_of_19 ?_
    refine a_bipush (pc := 20) (v := nI 7) dX12_of_20 (by decide) ?_
    refine a_icmp_ne (pc := 22) (tgt := 62) dX12_of_22 (by decide) (fun c_22 => ?_) (fun c_22 => ?_)
    · refine a_iconst (pc := 62) (v := (-1)) dX12_of_62 (by decide) ?_
      exact a_iret (pc := 63) dX12_of_63 rfl (zf hz) (k0 (Or.inl ⟨hwh, c_22⟩))
    · refine a_iloadn_1 (pc := 25) dX12_of_25 ?_
      refine a_i2l (pc := 26) dX12_of_26 ?_
      refine cs_X12_106 (pc := 27) rfl dX12_of_27 (Nat.le_of_ble_eq_true rfl) ?_
      refine m_isRoom (by omega) hz ?_
      refine a_topi (bI (inR 0 (nI 35) n)) (congrArg bI (inL_R 0 35 (by decide) (by decide) n)) ?_
      refine b_if_eq (pc := 30) (tgt := 62) dX12_of_30 (by decide) (fun c_30 => ?_) (fun c_30 => ?_)
      · refine a_iconst (pc := 62) (v := (-1)) dX12_of_62 (by decide) ?_
        exact a_iret (pc := 63) dX12_of_63 rfl (zf hz) (k0 (Or.inr ⟨hwh, c_30⟩))
      · obtain ⟨n_n, h_n, rfl⟩ := inR_of (by decide) c_30
        have i_n : iN (nI n_n) = n_n := iN_nI (by omega)
        refine a_aloadn_0 (pc := 33) dX12_of_33 ?_
        refine mg_9 hm rfl dX12_of_34 ?_
        refine a_iloadn_1 (pc := 37) dX12_of_37 ?_
        refine ml_may (x := cW v n_n) hm dX12_of_38 (by omega) (hb.1 n_n (by omega)).1 ?_
        have w9 := okv.1 n_n
        refine n_if_le (tgt := 58) dX12_of_39 (by decide) (by omega) (fun c_39 => ?_) (fun c_39 => ?_)
        · refine a_iconst (pc := 58) (v := nI 0) dX12_of_58 (by decide) ?_
          refine a_goto (pc := 59) (tgt := 63) dX12_of_59 (by decide) ?_
          exact a_iret (pc := 63) dX12_of_63 rfl (zf hz) (by have e : clit v n_n = false := (by simp [clit, wx, c_39]);  exact (show Q (some (.int (nI 0))) h from by have := k2 n_n hwh c_22 (by omega) rfl; rw [e] at this; exact this))
        · refine a_aloadn_0 (pc := 42) dX12_of_42 ?_
          refine mg_9 hm rfl dX12_of_43 ?_
          refine a_bipush (pc := 46) (v := nI 108) dX12_of_46 (by decide) ?_
          refine a_iloadn_1 (pc := 48) dX12_of_48 ?_
          refine n_iadd dX12_of_49 ?_
          refine ml_may (x := (cK v n_n).toNat) hm dX12_of_50 (by omega) (hb.1 n_n (by omega)).2.1 ?_
          refine a_topi (bI (cK v n_n)) (bI_nI _).symm ?_
          refine b_if_ne (pc := 51) (tgt := 58) dX12_of_51 (by decide) (fun c_51 => ?_) (fun c_51 => ?_)
          · refine a_iconst (pc := 58) (v := nI 0) dX12_of_58 (by decide) ?_
            refine a_goto (pc := 59) (tgt := 63) dX12_of_59 (by decide) ?_
            exact a_iret (pc := 63) dX12_of_63 rfl (zf hz) (by have e : clit v n_n = false := (by simp [clit, wx, c_51]);  exact (show Q (some (.int (nI 0))) h from by have := k2 n_n hwh c_22 (by omega) rfl; rw [e] at this; exact this))
          · refine a_iconst (pc := 54) (v := nI 1) dX12_of_54 (by decide) ?_
            refine a_goto (pc := 55) (tgt := 63) dX12_of_55 (by decide) ?_
            exact a_iret (pc := 63) dX12_of_63 rfl (zf hz) (by have e : clit v n_n = true := (by simp [clit, wx, c_39, c_51]);  exact (show Q (some (.int (nI 1))) h from by have := k2 n_n hwh c_22 (by omega) rfl; rw [e] at this; exact this))
  | some wh0 =>
    obtain ⟨hwl, k, hk, hwk⟩ := whO_lt hwh
    refine a_ls (ls' := [some (.ref (gB G + 80)), some (.int n), some (.int w), some (.int (nI wh0))]) ⟨rfl, rfl, rfl, rfl, trivial⟩ ?_
    refine a_iloadn_3 (pc := 6) dX12_of_6 ?_
    refine n_if_lt (tgt := 19) dX12_of_7 (by decide) (by omega) ?_
    refine a_aloadn_0 (pc := 10) dX12_of_10 ?_
    refine mg_9 hm rfl dX12_of_11 ?_
    refine a_iloadn_3 (pc := 14) dX12_of_14 ?_
    refine ml_may (x := gMay b wh0) hm dX12_of_15 (by omega) rfl ?_
    refine a_goto (pc := 16) (tgt := 63) dX12_of_16 (by decide) ?_
    exact a_iret (pc := 63) dX12_of_63 rfl (zf hz) (k1 wh0 hwh)
set_option maxRecDepth 100000 in
set_option maxHeartbeats 4000000 in
theorem m_feed {G : Cx} {d : Nat} {h h0 : List va_E} {b : MB} {p : MP} {t : MT} {o : MO} {Q : Option Value → List va_E → Prop} (hd : 3 ≤ d) (hz : gz G = false) (hm : MS G h0 h (b, p, t, o)) {c : Int32} (ht : gTapeMany b ≤ 120) (k0 : inR 0 (nI 255) c = false → Q (some (.int (-1))) h) (k2 : ∀ n, n ≤ 255 → c = nI n → gTapeMany b = 120 → Q (some (.int (-3))) h) (k1 : ∀ n, n ≤ 255 → c = nI n → gTapeMany b < 120 → ∀ h1, MS G h0 h1 (uTapeMany (uTape b (va_up (gTape b) (gTapeMany b) n)) (gTapeMany b + 1), p, t, o) → Q (some (.int (nI (gTapeMany b + 1)))) h1) : AM G yX12_feed cX12_feed 2 (some .int) d 0 0 [.ref (gB G + 80), .int (c)] h Q := by
  obtain ⟨d, rfl, he⟩ := dpos hd
  refine AM.of [some (.ref (gB G + 80)), some (.int (c))] pnX12 (Nat.le_of_ble_eq_true rfl) (by simp [lsub, lvI, Value.category]) ?_
  refine a_iloadn_1 (pc := 0) dX12_feed_0 ?_
  refine a_i2l (pc := 1) dX12_feed_1 ?_
  refine a_lconst (pc := 2) (v := 0) dX12_feed_2 (by decide) ?_
  refine a_ldc2 (pc := 3) dX12_feed_3 w_1170 ?_
  refine cs_X12_96 (pc := 6) rfl dX12_feed_6 (Nat.le_of_ble_eq_true rfl) ?_
  refine m_within (by omega) hz ?_
  refine a_topi (bI (inR 0 (nI 255) c)) (congrArg bI (inL_R 0 255 (by decide) (by decide) c)) ?_
  refine b_if_ne (pc := 9) (tgt := 14) dX12_feed_9 (by decide) (fun c_9 => ?_) (fun c_9 => ?_)
  · obtain ⟨n_c, h_c, rfl⟩ := inR_of (by decide) c_9
    have i_c : iN (nI n_c) = n_c := iN_nI (by omega)
    refine a_aloadn_0 (pc := 14) dX12_feed_14 ?_
    refine mg_135 (x := gTapeMany b) hm rfl dX12_feed_15 rfl ?_
    refine a_bipush (pc := 18) (v := nI 120) dX12_feed_18 (by decide) ?_
    refine n_icmp_ne (tgt := 26) dX12_feed_20 (by decide) (by omega) (by decide) (fun c_20 => ?_) (fun c_20 => ?_)
    · refine a_aloadn_0 (pc := 26) dX12_feed_26 ?_
      refine mg_22 hm rfl dX12_feed_27 ?_
      refine a_aloadn_0 (pc := 30) dX12_feed_30 ?_
      refine mg_135 (x := gTapeMany b) hm rfl dX12_feed_31 rfl ?_
      refine a_iloadn_1 (pc := 34) dX12_feed_34 ?_
      refine ms_tape (j := (gTapeMany b)) (x := n_c) hm dX12_feed_35 (by omega) (fun h1 hm1 => ?_)
      refine a_aloadn_0 (pc := 36) dX12_feed_36 ?_
      refine a_dup (pc := 37) dX12_feed_37 rfl ?_
      refine mg_135 (x := gTapeMany b) hm1 rfl dX12_feed_38 rfl ?_
      refine a_iconst (pc := 41) (v := nI 1) dX12_feed_41 (by decide) ?_
      refine n_iadd dX12_feed_42 ?_
      refine mp_135 (x := gTapeMany b + 1) hm1 rfl dX12_feed_43 (fun h2 hm2 => ?_)
      refine a_aloadn_0 (pc := 46) dX12_feed_46 ?_
      refine mg_135 (x := gTapeMany b + 1) hm2 rfl dX12_feed_47 rfl ?_
      exact a_iret (pc := 50) dX12_feed_50 rfl (zf hz) (k1 n_c (by omega) rfl (by omega) _ hm2)
    · refine a_bipush (pc := 23) (v := (-3)) dX12_feed_23 (by decide) ?_
      exact a_iret (pc := 25) dX12_feed_25 rfl (zf hz) (k2 n_c (by omega) rfl c_20)
  · refine a_iconst (pc := 12) (v := (-1)) dX12_feed_12 (by decide) ?_
    exact a_iret (pc := 13) dX12_feed_13 rfl (zf hz) (k0 c_9)
set_option maxRecDepth 100000 in
set_option maxHeartbeats 4000000 in
theorem m_law {G : Cx} {d : Nat} {h h0 : List va_E} {b : MB} {p : MP} {t : MT} {o : MO} {Q : Option Value → List va_E → Prop} (hd : 62 ≤ d) (hz : gz G = false) (hm : MS G h0 h (b, p, t, o)) {nn : Nat} (hn : gTapeMany b = nn) (hn120 : nn ≤ 120) (h255 : ∀ i, i < nn → gTape b i ≤ 255) (k0 : ∀ f, txt (chA (gTape b) nn) nn = .inl f → f ≤ nn → ∀ h1 p1, MS G h0 h1 (uTapeMany b 0, p1, t, o) → Q (some (.int (Int32.ofInt (-100) - nI f))) h1) (k1 : ∀ A, txt (chA (gTape b) nn) nn = .inr A → ∀ f : Nat → Nat, (∀ j, j < nn → f j = gTape b j) → ∀ h1 p1, MS G h0 h1 (uTextMany (uText (uTapeMany b 0) f) (nI nn), p1, t, o) → Q (some (.int (nI 1))) h1) : AM G yX12_law cX12_law 4 (some .int) d 0 0 [.ref (gB G + 80)] h Q := by
  obtain ⟨d, rfl, he⟩ := dpos hd
  have hbyt : BYT b (-1) nn (chA (gTape b) nn) := ⟨hn120, chA_0 _ _, fun i => by unfold chA; split; (· rename_i q; exact h255 i q); (· omega), Or.inl ⟨rfl, fun i hi => (if_pos hi).symm⟩⟩
  refine AM.of [some (.ref (gB G + 80)), none, none, none] pnX12 (Nat.le_of_ble_eq_true rfl) (by simp [lsub, lvI, Value.category]) ?_
  refine a_aloadn_0 (pc := 0) dX12_law_0 ?_
  refine a_iconst (pc := 1) (v := (-1)) dX12_law_1 (by decide) ?_
  refine a_aloadn_0 (pc := 2) dX12_law_2 ?_
  refine mg_135 (x := nn) hm rfl dX12_law_3 hn ?_
  refine cv_X12_185 (pc := 6) rfl dX12_law_6 hm.2.2.1 (Nat.le_of_ble_eq_true rfl) ?_
  refine m_workOut (by omega) hz hbyt hm (fun h9 x p1 hm9 hwo => ?_)
  obtain ⟨r, hT⟩ : ∃ r, txt (chA (gTape b) nn) nn = r := ⟨_, rfl⟩
  rw [hT] at hwo
  match r, hT, hwo with
  | .inl f, hT, hwo =>
    refine a_istoren_1 (pc := 9) dX12_law_9 (by decide) (by first | rfl | trivial) ?_
    refine a_aloadn_0 (pc := 10) dX12_law_10 ?_
    refine mg_135 (x := nn) hm9 rfl dX12_law_11 hn ?_
    refine a_istoren_2 (pc := 14) dX12_law_14 (by decide) (by first | rfl | trivial) ?_
    refine a_aloadn_0 (pc := 15) dX12_law_15 ?_
    refine a_iconst (pc := 16) (v := nI 0) dX12_law_16 (by decide) ?_
    refine mp_135 (x := 0) hm9 rfl dX12_law_17 (fun h13 hm13 => ?_)
    have hf9 : f ≤ nn := hwo.2
    refine a_aloadn_0 (pc := 20) dX12_law_20 ?_
    refine mg_147 (x := nI (f)) hm13 rfl dX12_law_21 hwo.1 ?_
    refine n_if_lt (tgt := 35) dX12_law_24 (by decide) (by omega) ?_
    refine a_bipush (pc := 27) (v := (-100)) dX12_law_27 (by decide) ?_
    refine a_aloadn_0 (pc := 29) dX12_law_29 ?_
    refine mg_147 (x := nI (f)) hm13 rfl dX12_law_30 hwo.1 ?_
    refine a_isub (pc := 33) dX12_law_33 ?_
    exact a_iret (pc := 34) dX12_law_34 rfl (zf hz) (k0 f hT hwo.2 _ p1 hm13)
  | .inr A, hT, hwo =>
    refine a_istoren_1 (pc := 9) dX12_law_9 (by decide) (by first | rfl | trivial) ?_
    refine a_aloadn_0 (pc := 10) dX12_law_10 ?_
    refine mg_135 (x := nn) hm9 rfl dX12_law_11 hn ?_
    refine a_istoren_2 (pc := 14) dX12_law_14 (by decide) (by first | rfl | trivial) ?_
    refine a_aloadn_0 (pc := 15) dX12_law_15 ?_
    refine a_iconst (pc := 16) (v := nI 0) dX12_law_16 (by decide) ?_
    refine mp_135 (x := 0) hm9 rfl dX12_law_17 (fun h13 hm13 => ?_)
    refine a_aloadn_0 (pc := 20) dX12_law_20 ?_
    refine mg_147 (x := (-1)) hm13 rfl dX12_law_21 hwo.1 ?_
    refine a_if_lt (pc := 24) (tgt := 35) dX12_law_24 (by decide) (fun c_24 => ?_) (fun c_24 => absurd c_24 (by decide))
    refine a_iconst (pc := 35) (v := nI 0) dX12_law_35 (by decide) ?_
    refine a_istoren_3 (pc := 36) dX12_law_36 (by decide) (by first | rfl | trivial) ?_
    have lp : ∀ (n : Nat) (i : Nat) (h1 : List va_E) (f : Nat → Nat), nn - i < n → (i ≤ nn) → (∀ j, j < i → f j = gTape b j) → (MS G h0 h1 (uText (uTapeMany b 0) f, p1, t, o)) → AW G yX12_law cX12_law 4 (some .int) (rmx (d + 1) 0 0) (ZQ G 0 0 (h.length + 0) Q) 0 0 37 [some (.ref (gB G + 80)), some (.int (x)), some (.int (nI (nn))), some (.int (nI (i)))] [] h1 := by
      intro n
      induction n with
      | zero => intro i h1 f hn; exact absurd hn (Nat.not_lt_zero _)
      | succ n ih =>
        intro i h1 f hn hi hf hm1
        refine a_iloadn_3 (pc := 37) dX12_law_37 ?_
        refine a_iloadn_2 (pc := 38) dX12_law_38 ?_
        refine n_icmp_ge (tgt := 60) dX12_law_39 (by decide) (by omega) (by omega) (fun c_39 => ?_) (fun c_39 => ?_)
        · refine a_aloadn_0 (pc := 60) dX12_law_60 ?_
          refine a_iloadn_2 (pc := 61) dX12_law_61 ?_
          refine mp_84 (x := nI (nn)) hm1 rfl dX12_law_62 (fun h6 hm6 => ?_)
          refine a_iconst (pc := 65) (v := nI 1) dX12_law_65 (by decide) ?_
          exact a_iret (pc := 66) dX12_law_66 rfl (zf hz) (k1 A hT f (fun j hj => hf j (by omega)) _ p1 hm6)
        · refine a_aloadn_0 (pc := 42) dX12_law_42 ?_
          refine mg_25 hm1 rfl dX12_law_43 ?_
          refine a_iloadn_3 (pc := 46) dX12_law_46 ?_
          refine a_aloadn_0 (pc := 47) dX12_law_47 ?_
          refine mg_22 hm1 rfl dX12_law_48 ?_
          refine a_iloadn_3 (pc := 51) dX12_law_51 ?_
          refine ml_tape (x := (gTape b) i) hm1 dX12_law_52 (by omega) rfl ?_
          refine ms_text (j := i) (x := (gTape b) i) hm1 dX12_law_53 (by omega) (fun h6 hm6 => ?_)
          refine a_iinc_3 (pc := 54) (v := nI (i + 1)) dX12_law_54 (nI_add _ _) (by decide) (by first | rfl | trivial) ?_
          refine a_goto (pc := 57) (tgt := 37) dX12_law_57 (by decide) ?_
          exact ih (i + 1) _ _ (by omega) (by omega) (va_up_lt hf rfl) hm6
    exact lp (nn + 1) 0 _ (gText b) (by omega) (by omega) (fun j hj => absurd hj (Nat.not_lt_zero _)) hm13
set_option maxRecDepth 100000 in
set_option maxHeartbeats 4000000 in
theorem m_image {G : Cx} {d : Nat} {h h0 : List va_E} {b : MB} {p : MP} {t : MT} {o : MO} {Q : Option Value → List va_E → Prop} (hd : 1 ≤ d) (hz : gz G = false) (hm : MS G h0 h (b, p, t, o)) (k : ∀ f g, (∀ j, j < 147 → f j = gMay b j) → (∀ j, j < 5 → g j = gLedNow b j) → ∀ h1, MS G h0 h1 (uImageLed (uImageMay (uIsKept b true) f) g, p, t, o) → Q (some (.int (nI (gLedNow b 0)))) h1) : AM G yX12_image cX12_image 2 (some .int) d 0 0 [.ref (gB G + 80)] h Q := by
  obtain ⟨d, rfl, he⟩ := dpos hd
  refine AM.of [some (.ref (gB G + 80)), none] pnX12 (Nat.le_of_ble_eq_true rfl) (by simp [lsub, lvI, Value.category]) ?_
  refine a_aloadn_0 (pc := 0) dX12_image_0 ?_
  refine a_iconst (pc := 1) (v := nI 1) dX12_image_1 (by decide) ?_
  refine mp_297 (x := true) hm rfl dX12_image_2 (fun h1 hm1 => ?_)
  refine a_iconst (pc := 5) (v := nI 0) dX12_image_5 (by decide) ?_
  refine a_istoren_1 (pc := 6) dX12_image_6 (by decide) (by first | rfl | trivial) ?_
  have lp1 : ∀ (n : Nat) (i : Nat) (h1 : List va_E) (f : Nat → Nat), 147 - i < n → (i ≤ 147) → (∀ j, j < i → f j = gMay b j) → (MS G h0 h1 (uImageMay (uIsKept b true) f, p, t, o)) → AW G yX12_image cX12_image 2 (some .int) (rmx (d + 1) 0 0) (ZQ G 0 0 (h.length + 0) Q) 0 0 7 [some (.ref (gB G + 80)), some (.int (nI (i)))] [] h1 := by
    intro n
    induction n with
    | zero => intro i h1 f hn; exact absurd hn (Nat.not_lt_zero _)
    | succ n ih =>
      intro i h1 f hn hi hf hm1
      refine a_iloadn_1 (pc := 7) dX12_image_7 ?_
      refine a_sipush (pc := 8) (v := nI 146) dX12_image_8 (by decide) ?_
      refine n_icmp_gt (tgt := 32) dX12_image_11 (by decide) (by omega) (by decide) (fun c_11 => ?_) (fun c_11 => ?_)
      · refine a_iconst (pc := 32) (v := nI 0) dX12_image_32 (by decide) ?_
        refine a_istoren_1 (pc := 33) dX12_image_33 (by decide) (by first | rfl | trivial) ?_
        have lp2 : ∀ (n : Nat) (i : Nat) (h1 : List va_E) (g : Nat → Nat), 5 - i < n → (i ≤ 5) → (∀ j, j < i → g j = gLedNow b j) → (MS G h0 h1 (uImageLed (uImageMay (uIsKept b true) f) g, p, t, o)) → AW G yX12_image cX12_image 2 (some .int) (rmx (d + 1) 0 0) (ZQ G 0 0 (h.length + 0) Q) 0 0 34 [some (.ref (gB G + 80)), some (.int (nI (i)))] [] h1 := by
          intro n
          induction n with
          | zero => intro i h1 g hn; exact absurd hn (Nat.not_lt_zero _)
          | succ n ih =>
            intro i h1 g hn hi hg hm1
            refine a_iloadn_1 (pc := 34) dX12_image_34 ?_
            refine a_iconst (pc := 35) (v := nI 5) dX12_image_35 (by decide) ?_
            refine n_icmp_ge (tgt := 57) dX12_image_36 (by decide) (by omega) (by decide) (fun c_36 => ?_) (fun c_36 => ?_)
            · refine a_aloadn_0 (pc := 57) dX12_image_57 ?_
              refine mg_56 hm1 rfl dX12_image_58 ?_
              refine a_iconst (pc := 61) (v := nI 0) dX12_image_61 (by decide) ?_
              refine ml_ledNow (x := gLedNow b 0) hm1 dX12_image_62 (by decide) rfl ?_
              exact a_iret (pc := 63) dX12_image_63 rfl (zf hz) (k f g (fun j hj => hf j (by omega)) (fun j hj => hg j (by omega)) _ hm1)
            · refine a_aloadn_0 (pc := 39) dX12_image_39 ?_
              refine mg_62 hm1 rfl dX12_image_40 ?_
              refine a_iloadn_1 (pc := 43) dX12_image_43 ?_
              refine a_aloadn_0 (pc := 44) dX12_image_44 ?_
              refine mg_56 hm1 rfl dX12_image_45 ?_
              refine a_iloadn_1 (pc := 48) dX12_image_48 ?_
              refine ml_ledNow (x := gLedNow b i) hm1 dX12_image_49 (by omega) rfl ?_
              refine ms_imageLed (j := i) (x := gLedNow b i) hm1 dX12_image_50 (by omega) (fun h4 hm4 => ?_)
              refine a_iinc_1 (pc := 51) (v := nI (i + 1)) dX12_image_51 (nI_add _ _) (by decide) (by first | rfl | trivial) ?_
              refine a_goto (pc := 54) (tgt := 34) dX12_image_54 (by decide) ?_
              exact ih (i + 1) _ _ (by omega) (by omega) (va_up_lt hg rfl) hm4
        exact lp2 6 0 _ (gImageLed b) (by omega) (by omega) (fun j hj => absurd hj (Nat.not_lt_zero _)) hm1
      · refine a_aloadn_0 (pc := 14) dX12_image_14 ?_
        refine mg_59 hm1 rfl dX12_image_15 ?_
        refine a_iloadn_1 (pc := 18) dX12_image_18 ?_
        refine a_aloadn_0 (pc := 19) dX12_image_19 ?_
        refine mg_9 hm1 rfl dX12_image_20 ?_
        refine a_iloadn_1 (pc := 23) dX12_image_23 ?_
        refine ml_may (x := gMay b i) hm1 dX12_image_24 (by omega) rfl ?_
        refine ms_imageMay (j := i) (x := gMay b i) hm1 dX12_image_25 (by omega) (fun h4 hm4 => ?_)
        refine a_iinc_1 (pc := 26) (v := nI (i + 1)) dX12_image_26 (nI_add _ _) (by decide) (by first | rfl | trivial) ?_
        refine a_goto (pc := 29) (tgt := 7) dX12_image_29 (by decide) ?_
        exact ih (i + 1) _ _ (by omega) (by omega) (va_up_lt hf rfl) hm4
  exact lp1 148 0 _ (gImageMay b) (by omega) (by omega) (fun j hj => absurd hj (Nat.not_lt_zero _)) hm1
set_option maxRecDepth 100000 in
set_option maxHeartbeats 4000000 in
theorem m_back {G : Cx} {d : Nat} {h h0 : List va_E} {b : MB} {p : MP} {t : MT} {o : MO} {Q : Option Value → List va_E → Prop} (hd : 1 ≤ d) (hz : gz G = false) (hm : MS G h0 h (b, p, t, o)) (k0 : gIsKept b = false → Q (some (.int (-5))) h) (k1 : gIsKept b = true → ∀ f g, (∀ j, j < 36 → f j = gImageMay b j) → (∀ j, j < 36 → f (108 + j) = gImageMay b (108 + j)) → f 146 = gImageMay b 146 → (∀ j, 36 ≤ j → ¬ (108 ≤ j ∧ j < 144) → j ≠ 146 → f j = gMay b j) → (∀ j, j < 5 → g j = gImageLed b j) → ∀ h1, MS G h0 h1 (uLedNow (uMay b f) g, p, t, o) → Q (some (.int (nI (gImageLed b 0)))) h1) : AM G yX12_back cX12_back 2 (some .int) d 0 0 [.ref (gB G + 80)] h Q := by
  obtain ⟨d, rfl, he⟩ := dpos hd
  refine AM.of [some (.ref (gB G + 80)), none] pnX12 (Nat.le_of_ble_eq_true rfl) (by simp [lsub, lvI, Value.category]) ?_
  refine a_aloadn_0 (pc := 0) dX12_back_0 ?_
  refine mg_297 (x := gIsKept b) hm rfl dX12_back_1 rfl ?_
  refine b_if_ne (pc := 4) (tgt := 10) dX12_back_4 (by decide) (fun c_4 => ?_) (fun c_4 => ?_)
  · refine a_iconst (pc := 10) (v := nI 0) dX12_back_10 (by decide) ?_
    refine a_istoren_1 (pc := 11) dX12_back_11 (by decide) (by first | rfl | trivial) ?_
    have hkp := c_4
    have lp1 : ∀ (n : Nat) (i : Nat) (h1 : List va_E) (f : Nat → Nat), 36 - i < n → (i ≤ 36) → (∀ j, j < i → f j = gImageMay b j) → (∀ j, j < i → f (108 + j) = gImageMay b (108 + j)) → (∀ j, (i ≤ j ∧ ¬ (108 ≤ j ∧ j < 108 + i)) → True → f j = gMay b j) → (MS G h0 h1 (uMay b f, p, t, o)) → AW G yX12_back cX12_back 2 (some .int) (rmx (d + 1) 0 0) (ZQ G 0 0 (h.length + 0) Q) 0 0 12 [some (.ref (gB G + 80)), some (.int (nI (i)))] [] h1 := by
      intro n
      induction n with
      | zero => intro i h1 f hn; exact absurd hn (Nat.not_lt_zero _)
      | succ n ih =>
        intro i h1 f hn hi hf hf1 hf2 hm1
        refine a_iloadn_1 (pc := 12) dX12_back_12 ?_
        refine a_bipush (pc := 13) (v := nI 36) dX12_back_13 (by decide) ?_
        refine n_icmp_ge (tgt := 54) dX12_back_15 (by decide) (by omega) (by decide) (fun c_15 => ?_) (fun c_15 => ?_)
        · refine a_aloadn_0 (pc := 54) dX12_back_54 ?_
          refine mg_9 hm1 rfl dX12_back_55 ?_
          refine a_sipush (pc := 58) (v := nI 146) dX12_back_58 (by decide) ?_
          refine a_aloadn_0 (pc := 61) dX12_back_61 ?_
          refine mg_59 hm1 rfl dX12_back_62 ?_
          refine a_sipush (pc := 65) (v := nI 146) dX12_back_65 (by decide) ?_
          refine ml_imageMay (x := gImageMay b 146) hm1 dX12_back_68 (by decide) rfl ?_
          refine ms_may (j := 146) (x := gImageMay b 146) hm1 dX12_back_69 (by decide) (fun h4 hm4 => ?_)
          refine a_iconst (pc := 70) (v := nI 0) dX12_back_70 (by decide) ?_
          refine a_istoren_1 (pc := 71) dX12_back_71 (by decide) (by first | rfl | trivial) ?_
          have lp2 : ∀ (n : Nat) (i : Nat) (h1 : List va_E) (g : Nat → Nat), 5 - i < n → (i ≤ 5) → (∀ j, j < i → g j = gImageLed b j) → (MS G h0 h1 (uLedNow (uMay b (va_up f 146 (gImageMay b 146))) g, p, t, o)) → AW G yX12_back cX12_back 2 (some .int) (rmx (d + 1) 0 0) (ZQ G 0 0 (h.length + 0) Q) 0 0 72 [some (.ref (gB G + 80)), some (.int (nI (i)))] [] h1 := by
            intro n
            induction n with
            | zero => intro i h1 g hn; exact absurd hn (Nat.not_lt_zero _)
            | succ n ih =>
              intro i h1 g hn hi hg hm1
              refine a_iloadn_1 (pc := 72) dX12_back_72 ?_
              refine a_iconst (pc := 73) (v := nI 5) dX12_back_73 (by decide) ?_
              refine n_icmp_ge (tgt := 95) dX12_back_74 (by decide) (by omega) (by decide) (fun c_74 => ?_) (fun c_74 => ?_)
              · refine a_aloadn_0 (pc := 95) dX12_back_95 ?_
                refine mg_56 hm1 rfl dX12_back_96 ?_
                refine a_iconst (pc := 99) (v := nI 0) dX12_back_99 (by decide) ?_
                refine ml_ledNow (x := gImageLed b 0) hm1 dX12_back_100 (by decide) (hg 0 (by omega)) ?_
                exact a_iret (pc := 101) dX12_back_101 rfl (zf hz) (k1 hkp (va_up f 146 (gImageMay b 146)) g (fun j hj => (up_ne (by omega)).trans (hf j (by omega))) (fun j hj => (up_ne (by omega)).trans (hf1 j (by omega))) up_eq (fun j a1 a2 a3 => (up_ne a3).trans (hf2 j (by omega) trivial)) (fun j hj => hg j (by omega)) _ hm1)
              · refine a_aloadn_0 (pc := 77) dX12_back_77 ?_
                refine mg_56 hm1 rfl dX12_back_78 ?_
                refine a_iloadn_1 (pc := 81) dX12_back_81 ?_
                refine a_aloadn_0 (pc := 82) dX12_back_82 ?_
                refine mg_62 hm1 rfl dX12_back_83 ?_
                refine a_iloadn_1 (pc := 86) dX12_back_86 ?_
                refine ml_imageLed (x := gImageLed b i) hm1 dX12_back_87 (by omega) rfl ?_
                refine ms_ledNow (j := i) (x := gImageLed b i) hm1 dX12_back_88 (by omega) (fun h4 hm4 => ?_)
                refine a_iinc_1 (pc := 89) (v := nI (i + 1)) dX12_back_89 (nI_add _ _) (by decide) (by first | rfl | trivial) ?_
                refine a_goto (pc := 92) (tgt := 72) dX12_back_92 (by decide) ?_
                exact ih (i + 1) _ _ (by omega) (by omega) (va_up_lt hg rfl) hm4
          exact lp2 6 0 _ (gLedNow b) (by omega) (by omega) (fun j hj => absurd hj (Nat.not_lt_zero _)) hm4
        · refine a_aloadn_0 (pc := 18) dX12_back_18 ?_
          refine mg_9 hm1 rfl dX12_back_19 ?_
          refine a_iloadn_1 (pc := 22) dX12_back_22 ?_
          refine a_aloadn_0 (pc := 23) dX12_back_23 ?_
          refine mg_59 hm1 rfl dX12_back_24 ?_
          refine a_iloadn_1 (pc := 27) dX12_back_27 ?_
          refine ml_imageMay (x := gImageMay b i) hm1 dX12_back_28 (by omega) rfl ?_
          refine ms_may (j := i) (x := gImageMay b i) hm1 dX12_back_29 (by omega) (fun h4 hm4 => ?_)
          refine a_aloadn_0 (pc := 30) dX12_back_30 ?_
          refine mg_9 hm4 rfl dX12_back_31 ?_
          refine a_bipush (pc := 34) (v := nI 108) dX12_back_34 (by decide) ?_
          refine a_iloadn_1 (pc := 36) dX12_back_36 ?_
          refine n_iadd dX12_back_37 ?_
          refine a_aloadn_0 (pc := 38) dX12_back_38 ?_
          refine mg_59 hm4 rfl dX12_back_39 ?_
          refine a_bipush (pc := 42) (v := nI 108) dX12_back_42 (by decide) ?_
          refine a_iloadn_1 (pc := 44) dX12_back_44 ?_
          refine n_iadd dX12_back_45 ?_
          refine ml_imageMay (x := gImageMay b (108 + i)) hm4 dX12_back_46 (by omega) rfl ?_
          refine ms_may (j := (108 + i)) (x := gImageMay b (108 + i)) hm4 dX12_back_47 (by omega) (fun h5 hm5 => ?_)
          refine a_iinc_1 (pc := 48) (v := nI (i + 1)) dX12_back_48 (nI_add _ _) (by decide) (by first | rfl | trivial) ?_
          refine a_goto (pc := 51) (tgt := 12) dX12_back_51 (by decide) ?_
          exact ih (i + 1) _ _ (by omega) (by omega) (fun j hj => by by_cases e : j = i; (· subst e; exact (up_ne (by omega)).trans up_eq); (· exact (up_ne (by omega)).trans ((up_ne (by omega)).trans (hf j (by omega))))) (fun j hj => by by_cases e : j = i; (· subst e; exact up_eq); (· exact (up_ne (by omega)).trans ((up_ne (by omega)).trans (hf1 j (by omega))))) (fun j hj _ => (up_ne (by omega)).trans ((up_ne (by omega)).trans (hf2 j (by omega) trivial))) hm5
    exact lp1 37 0 _ (gMay b) (by omega) (by omega) (fun j hj => absurd hj (Nat.not_lt_zero _)) (fun j hj => absurd hj (Nat.not_lt_zero _)) (fun j _ _ => rfl) hm
  · refine a_bipush (pc := 7) (v := (-5)) dX12_back_7 (by decide) ?_
    exact a_iret (pc := 9) dX12_back_9 rfl (zf hz) (k0 c_4)
