/-! THE CLASS: rooms -/
set_option maxRecDepth 100000 in
set_option maxHeartbeats 4000000 in
theorem p_rooms {G : Cx} {d c : Nat} {h h0 : List va_E} {b : MB} {v : Cv} {F : Lf} {Q : Option Value → List va_E → Prop} (hd : 5 ≤ d) (hz : gz G = false) (hC : COb G h0 h b v F c) {dd ii nn : Int32} (k0 : (inR 0 (nI 5) dd && inR (nI 1) (nI 20) nn) = false → COb G h0 h b v F c → Q (some (.int (-1))) h) (k2 : ∀ q, q < 6 → dd = nI q → (∃ m, nn = nI m ∧ 1 ≤ m ∧ m ≤ 20) → ¬ gShelf b q < 0 → ¬ gShelf b q = nI 50 → COb G h0 h b v F c → Q (some (.int (-12))) h) (k1 : ∀ q m, q < 6 → dd = nI q → nn = nI m → 1 ≤ m → m ≤ 20 → (gShelf b q < 0 ∨ gShelf b q = nI 50) → ∀ h1 v1 (f : Nat → Nat) y, (f, y) = (if gShelf b q = nI 50 ∧ ¬ ii < 0 then rms (elO b q) (gMany b q) m (iN ii) (gMay b) else (gMay b, 0)) → COb G h0 h1 (uMay b f) v1 F c → Q (some (.int (nI y))) h1) : AM G yX11_rooms cX11_rooms 6 (some .int) d 0 0 [.ref (gB G + 0), .int (dd), .int (ii), .int (nn)] h Q := by
  obtain ⟨d, rfl, he⟩ := dpos hd
  refine AM.of [some (.ref (gB G + 0)), some (.int (dd)), some (.int (ii)), some (.int (nn)), none, none] pnX11 (Nat.le_of_ble_eq_true rfl) (by simp [lsub, lvI, Value.category]) ?_
  refine a_iloadn_1 (pc := 0) dX11_rooms_0 ?_
  refine cs_X11_97 (pc := 1) rfl dX11_rooms_1 (Nat.le_of_ble_eq_true rfl) ?_
  refine p_isShelf (by omega) hz ?_
  refine b_if_eq (pc := 4) (tgt := 17) dX11_rooms_4 (by decide) (fun c_4 => ?_) (fun c_4 => ?_)
  · refine a_iconst (pc := 17) (v := (-1)) dX11_rooms_17 (by decide) ?_
    exact a_iret (pc := 18) dX11_rooms_18 rfl (zf hz) (k0 (by simp [c_4]) hC)
  · obtain ⟨n_dd, h_dd, rfl⟩ := inR_of (by decide) c_4
    have i_dd : iN (nI n_dd) = n_dd := iN_nI (by omega)
    refine a_iloadn_3 (pc := 7) dX11_rooms_7 ?_
    refine a_iconst (pc := 8) (v := nI 1) dX11_rooms_8 (by decide) ?_
    refine a_bipush (pc := 9) (v := nI 20) dX11_rooms_9 (by decide) ?_
    refine cs_X11_101 (pc := 11) rfl dX11_rooms_11 (Nat.le_of_ble_eq_true rfl) ?_
    refine x_within (by omega) hz ?_
    refine a_topi (bI (inR (nI 1) (nI 20) nn)) rfl ?_
    refine b_if_ne (pc := 14) (tgt := 19) dX11_rooms_14 (by decide) (fun c_14 => ?_) (fun c_14 => ?_)
    · obtain ⟨n_nn, h0_nn, h_nn, rfl⟩ := inR_1 (by decide) (by decide) c_14
      have i_nn : iN (nI n_nn) = n_nn := iN_nI (by omega)
      refine a_aloadn_0 (pc := 19) dX11_rooms_19 ?_
      refine gf_X11_81 (pc := 20) rfl dX11_rooms_20 hC.c0 ?_
      refine a_iloadn_1 (pc := 23) dX11_rooms_23 ?_
      obtain ⟨sc, rw9, so, sz, el, S0, R0⟩ := hC.toQ (q := n_dd) (by omega)
      have hB := hC.2.1.2.2.2.1.1
      have hS := hC.2.1.2.2.2.1
      obtain ⟨hS1, hS2⟩ := hS
      refine sl_65 (j := n_dd) hC.c65 dX11_rooms_24 (by omega) ?_
      refine a_astore_4 (pc := 25) dX11_rooms_25 (by decide) (by first | rfl | trivial) ?_
      refine a_aload_4 (pc := 27) dX11_rooms_27 ?_
      refine cv_X11_105 (pc := 29) rfl dX11_rooms_29 S0.2.2.1 (Nat.le_of_ble_eq_true rfl) ?_
      refine s_isEmpty (by omega) hz S0 ?_
      refine b_if_eq (pc := 32) (tgt := 37) dX11_rooms_32 (by decide) (fun c_32 => ?_) (fun c_32 => ?_)
      · refine a_aload_4 (pc := 37) dX11_rooms_37 ?_
        refine a_iconst (pc := 39) (v := nI 0) dX11_rooms_39 (by decide) ?_
        refine cv_X11_109 (pc := 40) rfl dX11_rooms_40 S0.2.2.1 (Nat.le_of_ble_eq_true rfl) ?_
        refine s_isRowOf (by omega) hz S0 (by decide) (by have := R0.1; omega) ?_
        refine b_if_ne (pc := 43) (tgt := 49) dX11_rooms_43 (by decide) (fun c_43 => ?_) (fun c_43 => ?_)
        · refine a_iconst (pc := 49) (v := nI 0) dX11_rooms_49 (by decide) ?_
          refine a_istore_5 (pc := 50) dX11_rooms_50 (by decide) (by first | rfl | trivial) ?_
          have g5 : gShelf b n_dd = nI 50 := (shr_o hB R0 (s := 0) (by decide)).mp c_43
          by_cases hi : ii < 0
          · refine a_iload_5 (pc := 52) dX11_rooms_52 ?_
            refine a_iloadn_3 (pc := 54) dX11_rooms_54 ?_
            refine n_icmp_ge (tgt := 83) dX11_rooms_55 (by decide) (by decide) (by omega) (fun c_55 => by omega) (fun c_55 => ?_)
            refine a_aloadn_0 (pc := 58) dX11_rooms_58 ?_
            refine a_aload_4 (pc := 59) dX11_rooms_59 ?_
            refine a_iloadn_2 (pc := 61) dX11_rooms_61 ?_
            refine a_i2l (pc := 62) dX11_rooms_62 ?_
            refine a_ldc2 (pc := 63) dX11_rooms_63 w_401 ?_
            refine a_iload_5 (pc := 66) dX11_rooms_66 ?_
            refine n_i2l dX11_rooms_68 (by decide) ?_
            refine a_lmul (pc := 69) dX11_rooms_69 ?_
            refine a_ladd (pc := 70) dX11_rooms_70 ?_
            refine a_topl (ii.toInt64) (by rw [show lN 0 = 0 from rfl]; simp) ?_
            refine cv_X11_114 (pc := 71) rfl dX11_rooms_71 hC.c0 (Nat.le_of_ble_eq_true rfl) ?_
            refine p_threeN (by omega) hz hC (by rw [Int64.lt_iff_toInt_lt, Int32.toInt_toInt64]; exact Int32.lt_iff_toInt_lt.mp hi) (fun hC2 => ?_)
            refine n_if_eq (tgt := 83) dX11_rooms_74 (by decide) (by decide) (fun c_74 => ?_) (fun c_74 => by omega)
            refine a_iload_5 (pc := 83) dX11_rooms_83 ?_
            exact a_iret (pc := 85) dX11_rooms_85 rfl (zf hz) (k1 n_dd n_nn (by omega) rfl rfl (by omega) (by omega) (Or.inr g5) _ _ (gMay b) 0 (by rw [if_neg (fun z => z.2 hi)]) hC2)
          · obtain ⟨i9, hi9, rfl⟩ := nn_nI hi
            have i_9 : iN (nI i9) = i9 := iN_nI hi9
            obtain ⟨⟨FF, CC⟩, hFC⟩ : ∃ x, rms (elO b n_dd) (gMany b n_dd) n_nn i9 (gMay b) = x := ⟨_, rfl⟩
            have lt : ∀ (N x : Nat) (f : Nat → Nat) (v1 : Cv) (h1 : List va_E), 21 - x < N → x ≤ n_nn → (FF, CC) = ((rms (elO b n_dd) (gMany b n_dd) (n_nn - x) (i9 + 3 * x) f).1, (rms (elO b n_dd) (gMany b n_dd) (n_nn - x) (i9 + 3 * x) f).2 + x) → COb G h0 h1 (uMay b f) v1 F c → AW G yX11_rooms cX11_rooms 6 (some .int) (rmx (d + 1) 0 0) (ZQ G 0 0 (h.length + 0) Q) 0 0 52 [some (.ref (gB G + 0)), some (.int (nI (n_dd))), some (.int (nI (i9))), some (.int (nI (n_nn))), some (.ref (gB G + (66 + 2 * n_dd))), some (.int (nI (x)))] [] h1 := by
              intro N
              induction N with
              | zero => intro x f v1 h1 hN; exact absurd hN (Nat.not_lt_zero _)
              | succ N ih =>
                intro x f v1 h1 hN hx hR hC1
                refine a_iload_5 (pc := 52) dX11_rooms_52 ?_
                refine a_iloadn_3 (pc := 54) dX11_rooms_54 ?_
                refine n_icmp_ge (tgt := 83) dX11_rooms_55 (by decide) (by omega) (by omega) (fun c_55 => ?_) (fun c_55 => ?_)
                · have hR2 : (FF, CC) = (f, x) := by rw [hR, show n_nn - x = 0 by omega, rms]; exact congrArg (Prod.mk f) (Nat.zero_add x)
                  refine a_iload_5 (pc := 83) dX11_rooms_83 ?_
                  exact a_iret (pc := 85) dX11_rooms_85 rfl (zf hz) (k1 n_dd n_nn (by omega) rfl rfl (by omega) (by omega) (Or.inr g5) _ _ f x (by rw [if_pos ⟨g5, hi⟩, i_9, hFC]; exact hR2.symm) hC1)
                · 
                  refine a_aloadn_0 (pc := 58) dX11_rooms_58 ?_
                  refine a_aload_4 (pc := 59) dX11_rooms_59 ?_
                  refine a_iloadn_2 (pc := 61) dX11_rooms_61 ?_
                  refine n_i2l dX11_rooms_62 (by omega) ?_
                  refine a_ldc2 (pc := 63) dX11_rooms_63 w_401 ?_
                  refine a_iload_5 (pc := 66) dX11_rooms_66 ?_
                  refine n_i2l dX11_rooms_68 (by omega) ?_
                  refine a_lmul (pc := 69) dX11_rooms_69 ?_
                  refine a_ladd (pc := 70) dX11_rooms_70 ?_
                  refine a_topl (lN (i9 + 3 * x)) (by rw [lN_3 (by omega)]; exact lN_add _ _) ?_
                  refine cv_X11_114 (pc := 71) rfl dX11_rooms_71 hC1.c0 (Nat.le_of_ble_eq_true rfl) ?_
                  refine p_three (b := uMay b f) (by omega) hz hC1 (q := n_dd) (by omega) g5 (i := i9 + 3 * x) (by omega) (fun rw0 hC2 => ?_) (fun r w g rw0 h2 v2 hC2 => ?_)
                  · have rw0 : rowT (elO b n_dd) (gMany b n_dd) (i9 + 3 * x) = none := rw0
                    have hR2 : (FF, CC) = (f, x) := by rw [hR, rms_no (by omega) rw0]; exact congrArg (Prod.mk f) (Nat.zero_add x)
                    refine n_if_eq (tgt := 83) dX11_rooms_74 (by decide) (by decide) (fun c_74 => ?_) (fun c_74 => by omega)
                    refine a_iload_5 (pc := 83) dX11_rooms_83 ?_
                    exact a_iret (pc := 85) dX11_rooms_85 rfl (zf hz) (k1 n_dd n_nn (by omega) rfl rfl (by omega) (by omega) (Or.inr g5) _ _ f x (by rw [if_pos ⟨g5, hi⟩, i_9, hFC]; exact hR2.symm) hC2)
                  · have rw0 : rowT (elO b n_dd) (gMany b n_dd) (i9 + 3 * x) = some (r, w, g) := rw0
                    have hR3 : (FF, CC) = ((rms (elO b n_dd) (gMany b n_dd) (n_nn - (x + 1)) (i9 + 3 * x + 3) (va_up (va_up f r w) (36 + r) g)).1, (rms (elO b n_dd) (gMany b n_dd) (n_nn - (x + 1)) (i9 + 3 * x + 3) (va_up (va_up f r w) (36 + r) g)).2 + (x + 1)) := pr_s (by rw [hR, rms_ok (by omega) rw0])
                    refine n_if_eq (tgt := 83) dX11_rooms_74 (by decide) (by decide) (fun c_74 => by omega) (fun c_74 => ?_)
                    refine a_iinc_5 (pc := 77) (v := nI (x + 1)) dX11_rooms_77 (nI_add _ _) (by decide) (by first | rfl | trivial) ?_
                    refine a_goto (pc := 80) (tgt := 52) dX11_rooms_80 (by decide) ?_
                    exact ih (x + 1) _ _ _ (by omega) (by omega) (by rw [show i9 + 3 * (x + 1) = i9 + 3 * x + 3 by omega]; exact hR3) hC2
            exact lt 22 0 _ _ _ (by omega) (by omega) (by rw [Nat.sub_zero, Nat.mul_zero, Nat.add_zero, hFC]; rfl) hC
        · refine a_bipush (pc := 46) (v := (-12)) dX11_rooms_46 (by decide) ?_
          exact a_iret (pc := 48) dX11_rooms_48 rfl (zf hz) (k2 n_dd (by omega) rfl ⟨n_nn, rfl, by omega, by omega⟩ (fun z => by rw [(shr_e hB R0).mpr z] at c_32; cases c_32) (fun z => by rw [(shr_o hB R0 (s := 0) (by decide)).mpr z] at c_43; cases c_43) hC)
      · refine a_iconst (pc := 35) (v := nI 0) dX11_rooms_35 (by decide) ?_
        exact a_iret (pc := 36) dX11_rooms_36 rfl (zf hz) (k1 n_dd n_nn (by omega) rfl rfl (by omega) (by omega) (Or.inl ((shr_e hB R0).mp c_32)) _ _ (gMay b) 0 (by rw [if_neg (fun z => by have z1 := (shr_e hB R0).mp c_32; rw [z.1] at z1; exact absurd z1 (by decide))]) hC)
    · refine a_iconst (pc := 17) (v := (-1)) dX11_rooms_17 (by decide) ?_
      exact a_iret (pc := 18) dX11_rooms_18 rfl (zf hz) (k0 (by simp [c_4, i_dd, c_14]) hC)
