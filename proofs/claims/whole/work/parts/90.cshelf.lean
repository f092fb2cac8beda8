/-! THE CLASS: shift, taken -/
theorem sh_1 {b : MB} {dd i ee j n : Int32} (h : inR 0 (nI 5) dd = false) : shR b dd i ee j n = -1 := by unfold shR; rw [h]; rfl
theorem sh_2 {b : MB} {dd i ee j n : Int32} (h : inR 0 (nI 5) ee = false) : shR b dd i ee j n = -1 := by
  unfold shR
  rw [h]
  split <;> rfl
theorem sh_i {b : MB} {q q2 : Nat} {i j n : Int32} (hq : q < 6) (hq2 : q2 < 6) : shR b (nI q) i (nI q2) j n = if gShelf b q < 0 ∨ gShelf b q2 < 0 then -11 else if gShelf b q < nI 50 ∨ ¬ gShelf b q = gShelf b q2 then -12 else if n < 0 ∨ i < 0 ∨ j < 0 ∨ nI (gMany b q) - n < i ∨ nI (gMany b q2) - n < j then -13 else 0 := by
  have hx : ∀ z, z < 6 → inR 0 (nI 5) (nI z) = true := fun z hz => by rw [inR_nI (by decide) (by omega)]; exact decide_eq_true (by omega)
  unfold shR
  rw [if_pos (hx q hq), if_pos (hx q2 hq2), iN_nI (by omega), iN_nI (by omega)]
theorem sh_13 {m : Nat} {i n : Int32} (hm : m ≤ 60) (h : hpS m i n = false) : n < 0 ∨ i < 0 ∨ nI m - n < i := by
  by_cases a : n < 0
  · exact Or.inl a
  · by_cases c : i < 0
    · exact Or.inr (Or.inl c)
    · refine Or.inr (Or.inr (Classical.byContradiction fun z => ?_))
      obtain ⟨n1, hn, rfl⟩ := nn_nI a
      obtain ⟨i1, hi, rfl⟩ := nn_nI c
      rw [hp_ok (sub_le hm hn hi (Int32.not_lt.mp z)) hi hn] at h
      cases h
theorem in_body {n sz : Nat} (hs : sz ≤ 50) (h : n < sz) : inR 0 (nI sz - nI 1) (nI n) = true := by
  rw [pk_sub (show 1 ≤ sz by omega), inR_nI (by omega) (by omega)]
  exact decide_eq_true (by omega)
set_option maxRecDepth 100000 in
set_option maxHeartbeats 4000000 in
theorem p_shift {G : Cx} {d c : Nat} {h h0 : List va_E} {b : MB} {v : Cv} {F : Lf} {Q : Option Value → List va_E → Prop} (hd : 4 ≤ d) (hz : gz G = false) (hC : COb G h0 h b v F c) {dd i ee j n : Int32} (k0 : ∀ y, y = shR b dd i ee j n → ¬ y = 0 → COb G h0 h b v F c → Q (some (.int y)) h) (k1 : ∀ q i1 q2 j1 n1, q < 6 → q2 < 6 → dd = nI q → i = nI i1 → ee = nI q2 → j = nI j1 → n = nI n1 → i1 + n1 ≤ gMany b q → j1 + n1 ≤ gMany b q2 → (¬ gShelf b q < nI 50 ∧ gShelf b q = gShelf b q2) → ∀ h1, (∀ f : Nat → Int64, (∀ z, z < n1 → f (60 * q2 + j1 + z) = gItems b (60 * q + i1 + z)) → (∀ z, z < 60 * q2 + j1 ∨ 60 * q2 + j1 + n1 ≤ z → f z = gItems b z) → COb G h0 h1 (uItems b f) v F c) → Q (some (.int (nI n1))) h1) : AM G yX11_shift cX11_shift 8 (some .int) d 0 0 [.ref (gB G + 0), .int (dd), .int (i), .int (ee), .int (j), .int (n)] h Q := by
  obtain ⟨d, rfl, he⟩ := dpos hd
  refine AM.of [some (.ref (gB G + 0)), some (.int (dd)), some (.int (i)), some (.int (ee)), some (.int (j)), some (.int (n)), none, none] pnX11 (Nat.le_of_ble_eq_true rfl) (by simp [lsub, lvI, Value.category]) ?_
  refine a_iloadn_1 (pc := 0) dX11_shift_0 ?_
  refine cs_X11_97 (pc := 1) rfl dX11_shift_1 (Nat.le_of_ble_eq_true rfl) ?_
  refine p_isShelf (by omega) hz ?_
  refine b_if_eq (pc := 4) (tgt := 14) dX11_shift_4 (by decide) (fun c_4 => ?_) (fun c_4 => ?_)
  · refine a_iconst (pc := 14) (v := (-1)) dX11_shift_14 (by decide) ?_
    exact a_iret (pc := 15) dX11_shift_15 rfl (zf hz) (k0 _ (sh_1 c_4).symm (by decide) hC)
  · obtain ⟨n_dd, h_dd, rfl⟩ := inR_of (by decide) c_4
    have i_dd : iN (nI n_dd) = n_dd := iN_nI (by omega)
    refine a_iloadn_3 (pc := 7) dX11_shift_7 ?_
    refine cs_X11_97 (pc := 8) rfl dX11_shift_8 (Nat.le_of_ble_eq_true rfl) ?_
    refine p_isShelf (by omega) hz ?_
    refine b_if_ne (pc := 11) (tgt := 16) dX11_shift_11 (by decide) (fun c_11 => ?_) (fun c_11 => ?_)
    · obtain ⟨n_ee, h_ee, rfl⟩ := inR_of (by decide) c_11
      have i_ee : iN (nI n_ee) = n_ee := iN_nI (by omega)
      refine a_aloadn_0 (pc := 16) dX11_shift_16 ?_
      refine gf_X11_81 (pc := 17) rfl dX11_shift_17 hC.c0 ?_
      refine a_iloadn_1 (pc := 20) dX11_shift_20 ?_
      obtain ⟨sc, rw9, so, sz, el, S0, R0⟩ := hC.toQ (q := n_dd) (by omega)
      have hB := hC.2.1.2.2.2.1.1
      have hS := hC.2.1.2.2.2.1
      obtain ⟨hS1, hS2⟩ := hS
      refine sl_65 (j := n_dd) hC.c65 dX11_shift_21 (by omega) ?_
      refine a_astore_6 (pc := 22) dX11_shift_22 (by decide) (by first | rfl | trivial) ?_
      refine a_aloadn_0 (pc := 24) dX11_shift_24 ?_
      refine gf_X11_81 (pc := 25) rfl dX11_shift_25 hC.c0 ?_
      refine a_iloadn_3 (pc := 28) dX11_shift_28 ?_
      obtain ⟨sc8, rw8, so8, sz8, el8, S1, R1⟩ := hC.toQ (q := n_ee) (by omega)
      refine sl_65 (j := n_ee) hC.c65 dX11_shift_29 (by omega) ?_
      refine a_astore_7 (pc := 30) dX11_shift_30 (by decide) (by first | rfl | trivial) ?_
      refine a_aload_6 (pc := 32) dX11_shift_32 ?_
      refine cv_X11_105 (pc := 34) rfl dX11_shift_34 S0.2.2.1 (Nat.le_of_ble_eq_true rfl) ?_
      refine s_isEmpty (by omega) hz S0 ?_
      refine b_if_ne (pc := 37) (tgt := 48) dX11_shift_37 (by decide) (fun c_37 => ?_) (fun c_37 => ?_)
      · have g0 := (shr_e hB R0).mp c_37
        refine a_bipush (pc := 48) (v := (-11)) dX11_shift_48 (by decide) ?_
        exact a_iret (pc := 50) dX11_shift_50 rfl (zf hz) (k0 _ ((sh_i (b := b) (q := n_dd) (q2 := n_ee) (by omega) (by omega)).trans (if_pos (Or.inl g0))).symm (by decide) hC)
      · have g0 : ¬ gShelf b n_dd < 0 := fun z => by rw [(shr_e hB R0).mpr z] at c_37; cases c_37
        refine a_aload_7 (pc := 40) dX11_shift_40 ?_
        refine cv_X11_105 (pc := 42) rfl dX11_shift_42 S1.2.2.1 (Nat.le_of_ble_eq_true rfl) ?_
        refine s_isEmpty (by omega) hz S1 ?_
        refine b_if_eq (pc := 45) (tgt := 51) dX11_shift_45 (by decide) (fun c_45 => ?_) (fun c_45 => ?_)
        · have ge : ¬ gShelf b n_ee < 0 := fun z => by rw [(shr_e hB R1).mpr z] at c_45; cases c_45
          refine a_aload_6 (pc := 51) dX11_shift_51 ?_
          refine cv_X11_315 (pc := 53) rfl dX11_shift_53 S0.2.2.1 (Nat.le_of_ble_eq_true rfl) ?_
          refine s_isRow (by omega) hz S0 ?_
          refine b_if_eq (pc := 56) (tgt := 72) dX11_shift_56 (by decide) (fun c_56 => ?_) (fun c_56 => ?_)
          · have g1 : gShelf b n_dd < nI 50 := Classical.byContradiction (fun z => by rw [(shr_r hB R0 g0).mpr z] at c_56; cases c_56)
            refine a_bipush (pc := 72) (v := (-12)) dX11_shift_72 (by decide) ?_
            exact a_iret (pc := 74) dX11_shift_74 rfl (zf hz) (k0 _ ((sh_i (b := b) (q := n_dd) (q2 := n_ee) (by omega) (by omega)).trans ((if_neg (fun z => z.elim g0 ge)).trans (if_pos (Or.inl g1)))).symm (by decide) hC)
          · have g1 := (shr_r hB R0 g0).mp c_56
            have gb : gShelf b n_dd = nI (50 + so) := by
              rcases shr_kind hB R0 with ⟨a1, _⟩ | ⟨_, _, _, a4⟩
              · rw [a1] at c_56; cases c_56
              · exact a4
            obtain ⟨_, p2, p3, p4⟩ := shr_el hB R0 R0.1 gb
            subst p2
            have m60 := (hS2 n_dd (by omega)).2
            have m61 := (hS2 n_ee (by omega)).2
            refine a_aload_7 (pc := 59) dX11_shift_59 ?_
            refine a_aload_6 (pc := 61) dX11_shift_61 ?_
            refine gf_X11_318 (pc := 63) rfl dX11_shift_63 S0.2.2.1 ?_
            refine cv_X11_109 (pc := 66) rfl dX11_shift_66 S1.2.2.1 (Nat.le_of_ble_eq_true rfl) ?_
            refine s_isRowOf (by omega) hz S1 (by have := R0.1; omega) (by have := R1.1; omega) ?_
            refine b_if_ne (pc := 69) (tgt := 75) dX11_shift_69 (by decide) (fun c_69 => ?_) (fun c_69 => ?_)
            · have gd : gShelf b n_ee = nI (50 + so) := (shr_o hB R1 R0.1).mp c_69
              obtain ⟨q1, q2, q3, q4⟩ := shr_el hB R1 R0.1 gd
              subst q2
              have gf : ¬ (gShelf b n_dd < nI 50 ∨ ¬ gShelf b n_dd = gShelf b n_ee) := fun z => z.elim (fun z => g1 z) (fun z => z (gb.trans gd.symm))
              refine a_aload_6 (pc := 75) dX11_shift_75 ?_
              refine a_iloadn_2 (pc := 77) dX11_shift_77 ?_
              refine a_iload_5 (pc := 78) dX11_shift_78 ?_
              refine cv_X11_321 (pc := 80) rfl dX11_shift_80 S0.2.2.1 (Nat.le_of_ble_eq_true rfl) ?_
              refine s_hasPlaces (by omega) hz S0 ?_
              refine b_if_eq (pc := 83) (tgt := 98) dX11_shift_83 (by decide) (fun c_83 => ?_) (fun c_83 => ?_)
              · have gk := sh_13 m60 c_83
                refine a_bipush (pc := 98) (v := (-13)) dX11_shift_98 (by decide) ?_
                exact a_iret (pc := 100) dX11_shift_100 rfl (zf hz) (k0 _ ((sh_i (b := b) (q := n_dd) (q2 := n_ee) (by omega) (by omega)).trans ((if_neg (fun z => z.elim g0 ge)).trans ((if_neg gf).trans (if_pos (gk.elim Or.inl (fun z => z.elim (fun z => Or.inr (Or.inl z)) (fun z => Or.inr (Or.inr (Or.inr (Or.inl z)))))))))).symm (by decide) hC)
              · refine a_aload_7 (pc := 86) dX11_shift_86 ?_
                refine a_iload_4 (pc := 88) dX11_shift_88 ?_
                refine a_iload_5 (pc := 90) dX11_shift_90 ?_
                refine cv_X11_321 (pc := 92) rfl dX11_shift_92 S1.2.2.1 (Nat.le_of_ble_eq_true rfl) ?_
                refine s_hasPlaces (by omega) hz S1 ?_
                refine b_if_ne (pc := 95) (tgt := 101) dX11_shift_95 (by decide) (fun c_95 => ?_) (fun c_95 => ?_)
                · obtain ⟨i1, n1, hi1, hn1, hle, hib, hnb⟩ := hp_t c_83
                  obtain ⟨j1, n2, hj1, hn2, hle2, hjb, hnb2⟩ := hp_t c_95
                  have hn3 : n1 = n2 := (nI_eq hnb hnb2).mp (hn1.symm.trans hn2)
                  subst hi1 hj1 hn1 hn3
                  refine a_aload_6 (pc := 101) dX11_shift_101 ?_
                  refine gf_X11_324 (pc := 103) rfl dX11_shift_103 S0.2.2.1 ?_
                  refine a_iloadn_2 (pc := 106) dX11_shift_106 ?_
                  refine a_aload_7 (pc := 107) dX11_shift_107 ?_
                  refine gf_X11_324 (pc := 109) rfl dX11_shift_109 S1.2.2.1 ?_
                  refine a_iload_4 (pc := 112) dX11_shift_112 ?_
                  refine a_iload_5 (pc := 114) dX11_shift_114 ?_
                  refine a_copylR (pc := 116) i1 j1 n1 dX11_shift_116 w_852 (by decide) (by decide) rfl rfl rfl (by omega) (by omega) S0.2.2.2.1 S1.2.2.2.1 (Nat.le_of_ble_eq_true rfl) ?_
                  have T1 : SW9 G h (h.set (66 + 2 * n_ee + 1) (.inl (gc G 1, 60, .inr (.inl (va_cpy el el8 i1 j1 n1))))) (66 + 2 * n_ee) sc8 rw8 so8 (gMany b n_ee) (va_cpy el el8 i1 j1 n1) := ⟨List.length_set, fun k a1 a2 => hs_ne (fun e => a2 e.symm) rfl, hs_ne (by omega) S1.2.2.1, hs_eq S1.2.2.2.1, S1.2.2.2.2⟩
                  have hC1 : ∀ f : Nat → Int64, (∀ z, z < n1 → f (60 * n_ee + j1 + z) = gItems b (60 * n_dd + i1 + z)) → (∀ z, z < 60 * n_ee + j1 ∨ 60 * n_ee + j1 + n1 ≤ z → f z = gItems b z) → COb G h0 (h.set (66 + 2 * n_ee + 1) (.inl (gc G 1, 60, .inr (.inl (va_cpy el el8 i1 j1 n1))))) (uItems b f) v F c := fun f g1 g2 => COb.sh (q := n_ee) (sh := gShelf b) (my := gMany b) (it := f) (by omega) T1 ⟨R1.1, Or.inr ⟨(Bool.and_eq_true_iff.mp c_69).1, (show gShelf b n_ee = nI (50 + so8) by rw [q1]; exact gd), rfl, fun j hj => (by
                    show va_cpy el el8 i1 j1 n1 j = f (60 * n_ee + j)
                    unfold va_cpy
                    by_cases z : j1 ≤ j ∧ j < j1 + n1
                    · rw [if_pos z]
                      have e := g1 (j - j1) (by omega)
                      rw [show 60 * n_ee + j1 + (j - j1) = 60 * n_ee + j by omega] at e
                      exact (p3 _ (by omega)).trans ((congrArg (gItems b) (by omega)).trans e.symm)
                    · rw [if_neg z]
                      exact (q3 j hj).trans (g2 _ (by omega)).symm), fun o0 j hj => (by
                    show BYt (f (60 * n_ee + j))
                    by_cases z : j1 ≤ j ∧ j < j1 + n1
                    · have e := g1 (j - j1) (by omega)
                      rw [show 60 * n_ee + j1 + (j - j1) = 60 * n_ee + j by omega] at e
                      rw [e, show 60 * n_dd + i1 + (j - j1) = 60 * n_dd + (i1 + (j - j1)) by omega]
                      exact p4 (q1.symm.trans o0) _ (by omega)
                    · rw [g2 _ (by omega)]
                      exact q4 o0 j hj)⟩⟩ (fun i hi hne => ⟨rfl, rfl, fun j hj => g2 _ (by omega)⟩) ⟨hS1, hS2⟩ hC
                  refine a_iload_5 (pc := 119) dX11_shift_119 ?_
                  exact a_iret (pc := 121) dX11_shift_121 rfl (zf hz) (k1 n_dd i1 n_ee j1 n1 (by omega) (by omega) rfl rfl rfl rfl rfl hle hle2 ⟨g1, gb.trans gd.symm⟩ _ hC1)
                · have gk := sh_13 m61 c_95
                  refine a_bipush (pc := 98) (v := (-13)) dX11_shift_98 (by decide) ?_
                  exact a_iret (pc := 100) dX11_shift_100 rfl (zf hz) (k0 _ ((sh_i (b := b) (q := n_dd) (q2 := n_ee) (by omega) (by omega)).trans ((if_neg (fun z => z.elim g0 ge)).trans ((if_neg gf).trans (if_pos (gk.elim Or.inl (fun z => z.elim (fun z => Or.inr (Or.inr (Or.inl z))) (fun z => Or.inr (Or.inr (Or.inr (Or.inr z)))))))))).symm (by decide) hC)
            · have gf : ¬ gShelf b n_dd = gShelf b n_ee := fun z => by rw [(shr_o hB R1 R0.1).mpr (z.symm.trans gb)] at c_69; cases c_69
              refine a_bipush (pc := 72) (v := (-12)) dX11_shift_72 (by decide) ?_
              exact a_iret (pc := 74) dX11_shift_74 rfl (zf hz) (k0 _ ((sh_i (b := b) (q := n_dd) (q2 := n_ee) (by omega) (by omega)).trans ((if_neg (fun z => z.elim g0 ge)).trans (if_pos (Or.inr gf)))).symm (by decide) hC)
        · have ge := (shr_e hB R1).mp c_45
          refine a_bipush (pc := 48) (v := (-11)) dX11_shift_48 (by decide) ?_
          exact a_iret (pc := 50) dX11_shift_50 rfl (zf hz) (k0 _ ((sh_i (b := b) (q := n_dd) (q2 := n_ee) (by omega) (by omega)).trans (if_pos (Or.inr ge))).symm (by decide) hC)
    · refine a_iconst (pc := 14) (v := (-1)) dX11_shift_14 (by decide) ?_
      exact a_iret (pc := 15) dX11_shift_15 rfl (zf hz) (k0 _ (sh_2 c_11).symm (by decide) hC)
set_option maxRecDepth 100000 in
set_option maxHeartbeats 4000000 in
theorem p_taken {G : Cx} {d c : Nat} {h h0 : List va_E} {b : MB} {v : Cv} {F : Lf} {Q : Option Value → List va_E → Prop} (hd : 5 ≤ d) (hz : gz G = false) (hC : COb G h0 h b v F c) {dd k : Int32} (kB : (inR 0 (nI 5) dd && inR 0 (nI 7) k) = false → COb G h0 h b v F c → Q (some (.int (-1))) h) (k11 : ∀ q n, q < 6 → dd = nI q → k = nI n → n < 8 → gShelf b q < 0 → COb G h0 h b v F c → Q (some (.int (-11))) h) (k12 : ∀ q n, q < 6 → dd = nI q → k = nI n → n < 8 → nI 50 ≤ gShelf b q → COb G h0 h b v F c → Q (some (.int (-12))) h) (k1 : ∀ q m n, q < 6 → dd = nI q → k = nI n → n < 8 → m < gBodies b → gShelf b q = nI m → ∀ y, y = (if n ∈ chn (gBodyKind b m) then nI (gBodyKind b m) else -12) → COb G h0 h b v F c → Q (some (.int y)) h) : AM G yX11_taken cX11_taken 5 (some .int) d 0 0 [.ref (gB G + 0), .int (dd), .int (k)] h Q := by
  obtain ⟨d, rfl, he⟩ := dpos hd
  refine AM.of [some (.ref (gB G + 0)), some (.int (dd)), some (.int (k)), none, none] pnX11 (Nat.le_of_ble_eq_true rfl) (by simp [lsub, lvI, Value.category]) ?_
  refine a_iloadn_1 (pc := 0) dX11_taken_0 ?_
  refine cs_X11_97 (pc := 1) rfl dX11_taken_1 (Nat.le_of_ble_eq_true rfl) ?_
  refine p_isShelf (by omega) hz ?_
  refine b_if_eq (pc := 4) (tgt := 17) dX11_taken_4 (by decide) (fun c_4 => ?_) (fun c_4 => ?_)
  · refine a_iconst (pc := 17) (v := (-1)) dX11_taken_17 (by decide) ?_
    exact a_iret (pc := 18) dX11_taken_18 rfl (zf hz) (kB (by simp [c_4]) hC)
  · obtain ⟨n_dd, h_dd, rfl⟩ := inR_of (by decide) c_4
    have i_dd : iN (nI n_dd) = n_dd := iN_nI (by omega)
    refine a_iloadn_2 (pc := 7) dX11_taken_7 ?_
    refine a_iconst (pc := 8) (v := nI 0) dX11_taken_8 (by decide) ?_
    refine a_bipush (pc := 9) (v := nI 7) dX11_taken_9 (by decide) ?_
    refine cs_X11_101 (pc := 11) rfl dX11_taken_11 (Nat.le_of_ble_eq_true rfl) ?_
    refine x_within (by omega) hz ?_
    refine a_topi (bI (inR 0 (nI 7) k)) rfl ?_
    refine b_if_ne (pc := 14) (tgt := 19) dX11_taken_14 (by decide) (fun c_14 => ?_) (fun c_14 => ?_)
    · obtain ⟨n_k, h_k, rfl⟩ := inR_of (by decide) c_14
      have i_k : iN (nI n_k) = n_k := iN_nI (by omega)
      refine a_aloadn_0 (pc := 19) dX11_taken_19 ?_
      refine gf_X11_81 (pc := 20) rfl dX11_taken_20 hC.c0 ?_
      refine a_iloadn_1 (pc := 23) dX11_taken_23 ?_
      obtain ⟨sc, rw9, so, sz, el, S0, R0⟩ := hC.toQ (q := n_dd) (by omega)
      have hB := hC.2.1.2.2.2.1.1
      have hS := hC.2.1.2.2.2.1
      obtain ⟨hS1, hS2⟩ := hS
      refine sl_65 (j := n_dd) hC.c65 dX11_taken_24 (by omega) ?_
      refine a_astoren_3 (pc := 25) dX11_taken_25 (by decide) (by first | rfl | trivial) ?_
      refine a_aloadn_3 (pc := 26) dX11_taken_26 ?_
      refine cv_X11_105 (pc := 27) rfl dX11_taken_27 S0.2.2.1 (Nat.le_of_ble_eq_true rfl) ?_
      refine s_isEmpty (by omega) hz S0 ?_
      refine b_if_eq (pc := 30) (tgt := 36) dX11_taken_30 (by decide) (fun c_30 => ?_) (fun c_30 => ?_)
      · have g0 : ¬ gShelf b n_dd < 0 := fun z => by rw [(shr_e hB R0).mpr z] at c_30; cases c_30
        refine a_aloadn_3 (pc := 36) dX11_taken_36 ?_
        refine cv_X11_315 (pc := 37) rfl dX11_taken_37 S0.2.2.1 (Nat.le_of_ble_eq_true rfl) ?_
        refine s_isRow (by omega) hz S0 ?_
        refine b_if_eq (pc := 40) (tgt := 47) dX11_taken_40 (by decide) (fun c_40 => ?_) (fun c_40 => ?_)
        · have g1 : gShelf b n_dd < nI 50 := Classical.byContradiction (fun z => by rw [(shr_r hB R0 g0).mpr z] at c_40; cases c_40)
          have g2 : sc = gShelf b n_dd := by
            rcases shr_kind hB R0 with ⟨_, a2, _⟩ | ⟨a1, _⟩
            · exact a2
            · rw [a1] at c_40; cases c_40
          obtain ⟨m, hmb, hsm⟩ := tk_body ⟨hS1, hS2⟩ (q := n_dd) (by omega) (Int32.not_lt.mp g0) g1
          obtain ⟨⟨ak, az, af⟩, ⟨st9, sr9⟩, T0, r1, r2, r3, r4⟩ := hC.toS
          have r1 : az = gBodies b := r1
          have r3 : sr9 = gRan b := r3
          subst r1 r3
          have hB := hC.2.1.2.2.2.1.1
          have hK8 := hC.2.1.2.2.2.2.1
          have hR9 := hC.2.1.2.2.2.2.2.1
          refine a_aloadn_0 (pc := 47) dX11_taken_47 ?_
          refine gf_X11_75 (pc := 48) rfl dX11_taken_48 hC.c0 ?_
          refine a_aloadn_3 (pc := 51) dX11_taken_51 ?_
          refine gf_X11_328 (pc := 52) rfl dX11_taken_52 S0.2.2.1 ?_
          refine a_topi (nI (m)) (g2.trans hsm) ?_
          refine cv_X11_331 (pc := 55) rfl dX11_taken_55 T0.ob (Nat.le_of_ble_eq_true rfl) ?_
          refine k_kindOf (by omega) hz T0 hB (fun hp => absurd (in_body hB hmb) (by rw [show inR 0 (nI (gBodies b) - nI 1) (nI m) = false from hp]; simp)) (fun n9 hn9 hx9 => ?_)
          have hx8 : m = n9 := (nI_eq (by omega) (by have hn9 : n9 < gBodies b := hn9; omega)).mp hx9
          subst hx8
          refine a_topi (nI (gBodyKind b m)) (congrArg nI (r2 m hmb)) ?_
          refine a_istore_4 (pc := 58) dX11_taken_58 (by decide) (by first | rfl | trivial) ?_
          refine a_iload_4 (pc := 60) dX11_taken_60 ?_
          refine a_iloadn_2 (pc := 62) dX11_taken_62 ?_
          refine cs_X11_334 (pc := 63) rfl dX11_taken_63 (Nat.le_of_ble_eq_true rfl) ?_
          refine k_isUnder (by omega) hz (by omega) (hK8 m hmb) ?_
          refine b_if_eq (pc := 66) (tgt := 74) dX11_taken_66 (by decide) (fun c_66 => ?_) (fun c_66 => ?_)
          · refine a_bipush (pc := 74) (v := (-12)) dX11_taken_74 (by decide) ?_
            exact a_iret (pc := 76) dX11_taken_76 rfl (zf hz) (k1 n_dd m n_k (by omega) rfl rfl (by omega) hmb hsm _ (if_neg (of_decide_eq_false c_66)).symm hC)
          · refine a_iload_4 (pc := 69) dX11_taken_69 ?_
            refine a_goto (pc := 71) (tgt := 76) dX11_taken_71 (by decide) ?_
            exact a_iret (pc := 76) dX11_taken_76 rfl (zf hz) (k1 n_dd m n_k (by omega) rfl rfl (by omega) hmb hsm _ (if_pos (of_decide_eq_true c_66)).symm hC)
        · have g1 := (shr_r hB R0 g0).mp c_40
          refine a_iconst (pc := 43) (v := (-1)) dX11_taken_43 (by decide) ?_
          refine a_goto (pc := 44) (tgt := 58) dX11_taken_44 (by decide) ?_
          refine a_istore_4 (pc := 58) dX11_taken_58 (by decide) (by first | rfl | trivial) ?_
          refine a_iload_4 (pc := 60) dX11_taken_60 ?_
          refine a_iloadn_2 (pc := 62) dX11_taken_62 ?_
          refine cs_X11_334 (pc := 63) rfl dX11_taken_63 (Nat.le_of_ble_eq_true rfl) ?_
          refine k_isUnder_m (by omega) hz (by omega) ?_
          refine a_topi (bI false) (congrArg bI (decide_eq_false (by unfold chn; simp))) ?_
          refine b_if_eq (pc := 66) (tgt := 74) dX11_taken_66 (by decide) (fun c_66 => ?_) (fun c_66 => by cases c_66)
          refine a_bipush (pc := 74) (v := (-12)) dX11_taken_74 (by decide) ?_
          exact a_iret (pc := 76) dX11_taken_76 rfl (zf hz) (k12 n_dd n_k (by omega) rfl rfl (by omega) (Int32.not_lt.mp g1) hC)
      · have g0 := (shr_e hB R0).mp c_30
        refine a_bipush (pc := 33) (v := (-11)) dX11_taken_33 (by decide) ?_
        exact a_iret (pc := 35) dX11_taken_35 rfl (zf hz) (k11 n_dd n_k (by omega) rfl rfl (by omega) g0 hC)
    · refine a_iconst (pc := 17) (v := (-1)) dX11_taken_17 (by decide) ?_
      exact a_iret (pc := 18) dX11_taken_18 rfl (zf hz) (kB (by simp [c_4, i_dd, c_14]) hC)
