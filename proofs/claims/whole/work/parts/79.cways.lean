/-! WAYS: canCut, fewestRooms, fewestLights -/
set_option maxRecDepth 100000 in
set_option maxHeartbeats 4000000 in
theorem w_canCut {G : Cx} {h0 : List va_E} {v : Cv} {r : Nat} (hz : gz G = false) (hr : r < 36) : ∀ (c9 : Nat) {d : Nat} {h : List va_E} {R : Nat → Int64} {Op : Nat → Bool} {Q : Option Value → List va_E → Prop}, 6 + c9 ≤ d → YQ G h0 h v R → c9 < 1000 → (∀ h1 R1 (y : Bool), (y = true ↔ CUF (ga v) r c9 0 Op) → YQ G h0 h1 v R1 → Q (some (.int (bI y))) h1) → AM G yX10_canCut cX10_canCut 12 (some .boolean) d 0 0 [.ref (gB G + 55), .int (nI r), .long (bL Op), .int (nI c9)] h Q := by
  intro c9
  induction c9 with
  | zero =>
    intro d h R Op Q hd hm hn9 k
    obtain ⟨d, rfl, he⟩ := dpos hd
    refine AM.of [some (.ref (gB G + 55)), some (.int (nI (r))), some (.long (bL (Op))), none, some (.int (nI (0))), none, none, none, none, none, none, none] pnX10 (Nat.le_of_ble_eq_true rfl) (by simp [lsub, lvI, Value.category]) ?_
    refine a_aloadn_0 (pc := 0) dX10_canCut_0 ?_
    refine a_iloadn_1 (pc := 1) dX10_canCut_1 ?_
    refine a_lloadn_2 (pc := 2) dX10_canCut_2 ?_
    refine cv_X10_29 (pc := 3) rfl dX10_canCut_3 hm.ob (Nat.le_of_ble_eq_true rfl) ?_
    refine w_shortestWay (by omega) hz hm rfl (by omega) (fun hS RS hN hmS => ?_) (fun hS RS s P W hP hG hW hmS => ?_)
    · 
      refine a_lstore_5 (pc := 6) dX10_canCut_6 (by decide) (by first | rfl | trivial) ?_
      refine a_lload_5 (pc := 8) dX10_canCut_8 ?_
      refine a_lconst (pc := 10) (v := 0) dX10_canCut_10 (by decide) ?_
      refine a_lcmp (pc := 11) dX10_canCut_11 ?_
      refine a_if_ne (pc := 12) (tgt := 17) dX10_canCut_12 (by decide) (fun c_12 => absurd (by decide) c_12) (fun c_12 => ?_)
      refine a_iconst (pc := 15) (v := nI 1) dX10_canCut_15 (by decide) ?_
      refine a_topi (bI true) (by decide) ?_
      exact a_zret (pc := 16) dX10_canCut_16 rfl (by first | rfl | exact bI_nar _ | decide) (zf hz) (k _ _ true ⟨fun _ => CUF_now hN, fun _ => rfl⟩ hmS)
    · have rW : W r = true := (hW r (by omega)).mpr ⟨0, Nat.zero_le s, hP.zero⟩
      have wne : ¬ lg_cmp (bL W) 0 = 0 := fun z => by
        rw [bit_0] at z; rw [z r (by omega)] at rW; cases rW
      refine a_lstore_5 (pc := 6) dX10_canCut_6 (by decide) (by first | rfl | trivial) ?_
      refine a_lload_5 (pc := 8) dX10_canCut_8 ?_
      refine a_lconst (pc := 10) (v := 0) dX10_canCut_10 (by decide) ?_
      refine a_lcmp (pc := 11) dX10_canCut_11 ?_
      refine a_if_ne (pc := 12) (tgt := 17) dX10_canCut_12 (by decide) (fun c_12 => ?_) (fun c_12 => absurd c_12 wne)
      refine a_lload_5 (pc := 17) dX10_canCut_17 ?_
      refine a_lconst (pc := 19) (v := 1) dX10_canCut_19 (by decide) ?_
      refine a_iloadn_1 (pc := 20) dX10_canCut_20 ?_
      refine a_lshl (pc := 21) dX10_canCut_21 ?_
      refine a_topl (bL (fun k => decide (k = r))) (bL_bit (by omega)) ?_
      refine a_ldc2 (pc := 22) dX10_canCut_22 w_695 ?_
      refine a_lxor (pc := 25) dX10_canCut_25 ?_
      refine a_land (pc := 26) dX10_canCut_26 ?_
      refine a_topl (bL (fun k => W k && !decide (k = r))) (bL_andn _ _) ?_
      refine a_lstore_7 (pc := 27) dX10_canCut_27 (by decide) (by first | rfl | trivial) ?_
      refine a_iconst (pc := 29) (v := nI 0) dX10_canCut_29 (by decide) ?_
      refine a_istore_9 (pc := 30) dX10_canCut_30 (by decide) (by first | rfl | trivial) ?_
      refine a_iload_9 (pc := 32) dX10_canCut_32 ?_
      refine a_bipush (pc := 34) (v := nI 36) dX10_canCut_34 (by decide) ?_
      refine n_icmp_ge (tgt := 88) dX10_canCut_36 (by decide) (by decide) (by decide) (fun c_36 => by omega) (fun c_36 => ?_)
      refine a_iload_4 (pc := 39) dX10_canCut_39 ?_
      refine n_if_le (tgt := 88) dX10_canCut_41 (by decide) (by decide) (fun c_41 => ?_) (fun c_41 => by omega)
      refine a_iconst (pc := 88) (v := nI 0) dX10_canCut_88 (by decide) ?_
      refine a_topi (bI false) (by decide) ?_
      exact a_zret (pc := 89) dX10_canCut_89 rfl (by first | rfl | exact bI_nar _ | decide) (zf hz) (k _ _ false ⟨fun q => (by cases q), fun q => (CUF_h0 hP q).elim⟩ hmS)
  | succ c9 ihn =>
    intro d h R Op Q hd hm hn9 k
    obtain ⟨d, rfl, he⟩ := dpos hd
    refine AM.of [some (.ref (gB G + 55)), some (.int (nI (r))), some (.long (bL (Op))), none, some (.int (nI (c9 + 1))), none, none, none, none, none, none, none] pnX10 (Nat.le_of_ble_eq_true rfl) (by simp [lsub, lvI, Value.category]) ?_
    refine a_aloadn_0 (pc := 0) dX10_canCut_0 ?_
    refine a_iloadn_1 (pc := 1) dX10_canCut_1 ?_
    refine a_lloadn_2 (pc := 2) dX10_canCut_2 ?_
    refine cv_X10_29 (pc := 3) rfl dX10_canCut_3 hm.ob (Nat.le_of_ble_eq_true rfl) ?_
    refine w_shortestWay (by omega) hz hm rfl (by omega) (fun hS RS hN hmS => ?_) (fun hS RS s P W hP hG hW hmS => ?_)
    · 
      refine a_lstore_5 (pc := 6) dX10_canCut_6 (by decide) (by first | rfl | trivial) ?_
      refine a_lload_5 (pc := 8) dX10_canCut_8 ?_
      refine a_lconst (pc := 10) (v := 0) dX10_canCut_10 (by decide) ?_
      refine a_lcmp (pc := 11) dX10_canCut_11 ?_
      refine a_if_ne (pc := 12) (tgt := 17) dX10_canCut_12 (by decide) (fun c_12 => absurd (by decide) c_12) (fun c_12 => ?_)
      refine a_iconst (pc := 15) (v := nI 1) dX10_canCut_15 (by decide) ?_
      refine a_topi (bI true) (by decide) ?_
      exact a_zret (pc := 16) dX10_canCut_16 rfl (by first | rfl | exact bI_nar _ | decide) (zf hz) (k _ _ true ⟨fun _ => CUF_now hN, fun _ => rfl⟩ hmS)
    · have rW : W r = true := (hW r (by omega)).mpr ⟨0, Nat.zero_le s, hP.zero⟩
      have wne : ¬ lg_cmp (bL W) 0 = 0 := fun z => by
        rw [bit_0] at z; rw [z r (by omega)] at rW; cases rW
      refine a_lstore_5 (pc := 6) dX10_canCut_6 (by decide) (by first | rfl | trivial) ?_
      refine a_lload_5 (pc := 8) dX10_canCut_8 ?_
      refine a_lconst (pc := 10) (v := 0) dX10_canCut_10 (by decide) ?_
      refine a_lcmp (pc := 11) dX10_canCut_11 ?_
      refine a_if_ne (pc := 12) (tgt := 17) dX10_canCut_12 (by decide) (fun c_12 => ?_) (fun c_12 => absurd c_12 wne)
      refine a_lload_5 (pc := 17) dX10_canCut_17 ?_
      refine a_lconst (pc := 19) (v := 1) dX10_canCut_19 (by decide) ?_
      refine a_iloadn_1 (pc := 20) dX10_canCut_20 ?_
      refine a_lshl (pc := 21) dX10_canCut_21 ?_
      refine a_topl (bL (fun k => decide (k = r))) (bL_bit (by omega)) ?_
      refine a_ldc2 (pc := 22) dX10_canCut_22 w_695 ?_
      refine a_lxor (pc := 25) dX10_canCut_25 ?_
      refine a_land (pc := 26) dX10_canCut_26 ?_
      refine a_topl (bL (fun k => W k && !decide (k = r))) (bL_andn _ _) ?_
      refine a_lstore_7 (pc := 27) dX10_canCut_27 (by decide) (by first | rfl | trivial) ?_
      refine a_iconst (pc := 29) (v := nI 0) dX10_canCut_29 (by decide) ?_
      refine a_istore_9 (pc := 30) dX10_canCut_30 (by decide) (by first | rfl | trivial) ?_
      have lp : ∀ (n : Nat) (x : Nat) (R1 : Nat → Int64) (h1 : List va_E), 37 - x < n → (x ≤ 36) → (∀ m, m < x → W m = true → m ≠ r → ¬ CUF (ga v) r c9 0 (mn1 Op m)) → (YQ G h0 h1 v R1) → AW G yX10_canCut cX10_canCut 12 (some .boolean) (rmx (d + 1) 0 0) (ZQ G 0 0 (h.length + 0) Q) 0 0 32 [some (.ref (gB G + 55)), some (.int (nI (r))), some (.long (bL (Op))), none, some (.int (nI (c9 + 1))), some (.long (bL (W))), none, some (.long (bL (fun k => W k && !decide (k = r)))), none, some (.int (nI (x))), none, none] [] h1 := by
        intro n
        induction n with
        | zero => intro x R1 h1 hn; exact absurd hn (Nat.not_lt_zero _)
        | succ n ih =>
          intro x R1 h1 hn hx hX hm1
          refine a_iload_9 (pc := 32) dX10_canCut_32 ?_
          refine a_bipush (pc := 34) (v := nI 36) dX10_canCut_34 (by decide) ?_
          refine n_icmp_ge (tgt := 88) dX10_canCut_36 (by decide) (by omega) (by decide) (fun c_36 => ?_) (fun c_36 => ?_)
          · have x36 : x = 36 := by omega
            refine a_iconst (pc := 88) (v := nI 0) dX10_canCut_88 (by decide) ?_
            refine a_topi (bI false) (by decide) ?_
            exact a_zret (pc := 89) dX10_canCut_89 rfl (by first | rfl | exact bI_nar _ | decide) (zf hz) (k _ _ false ⟨fun q => (by cases q), fun q => (by
              obtain ⟨j, z1, z2, z3⟩ := CUF_hit hP q
              exact absurd z3 (hX (P j) (by have := (hP.1 j z1).1; omega) ((hW _ (hP.1 j z1).1).mpr ⟨j, z1, rfl⟩) z2))⟩ hm1)
          · refine a_iload_4 (pc := 39) dX10_canCut_39 ?_
            refine n_if_le (tgt := 88) dX10_canCut_41 (by decide) (by omega) (fun c_41 => by omega) (fun c_41 => ?_)
            refine a_lconst (pc := 44) (v := 1) dX10_canCut_44 (by decide) ?_
            refine a_iload_9 (pc := 45) dX10_canCut_45 ?_
            refine a_lshl (pc := 47) dX10_canCut_47 ?_
            refine a_topl (bL (fun k => decide (k = x))) (bL_bit (by omega)) ?_
            refine a_lstore_10 (pc := 48) dX10_canCut_48 (by decide) (by first | rfl | trivial) ?_
            refine a_lload_7 (pc := 50) dX10_canCut_50 ?_
            refine a_lload_10 (pc := 52) dX10_canCut_52 ?_
            refine a_land (pc := 54) dX10_canCut_54 ?_
            refine a_topl (bL (fun i => (fun k => W k && !decide (k = r)) i && (fun k => decide (k = x)) i)) (bL_and _ _) ?_
            refine a_lconst (pc := 55) (v := 0) dX10_canCut_55 (by decide) ?_
            refine a_lcmp (pc := 56) dX10_canCut_56 ?_
            refine a_if_eq (pc := 57) (tgt := 82) dX10_canCut_57 (by decide) (fun c_57 => ?_) (fun c_57 => ?_)
            · rw [show (fun i => (fun k => W k && !decide (k = r)) i && (fun k => decide (k = x)) i) = (fun i => (fun k => W k && !decide (k = r)) i && decide (i = x)) from rfl, bit_at (by omega)] at c_57
              have hN2 : ∀ m, m < x + 1 → W m = true → m ≠ r → ¬ CUF (ga v) r c9 0 (mn1 Op m) := fun m hm9 z1 z2 z3 => by
                by_cases z : m = x
                · subst z; rw [z1, decide_eq_false z2] at c_57; cases c_57
                · exact hX m (by omega) z1 z2 z3
              refine a_iinc_9 (pc := 82) (v := nI (x + 1)) dX10_canCut_82 (nI_add _ _) (by decide) (by first | rfl | trivial) ?_
              refine a_goto (pc := 85) (tgt := 32) dX10_canCut_85 (by decide) ?_
              refine a_ls (ls' := [some _, some _, some _, none, some _, some _, none, some _, none, some _, none, none, none]) ⟨rfl, rfl, rfl, rfl, rfl, rfl, rfl, trivial⟩ ?_
              exact ih (x + 1) _ _ (by omega) (by omega) hN2 hm1
            · rw [show (fun i => (fun k => W k && !decide (k = r)) i && (fun k => decide (k = x)) i) = (fun i => (fun k => W k && !decide (k = r)) i && decide (i = x)) from rfl, bit_at (by omega), Bool.not_eq_false] at c_57
              have wx := Bool.and_eq_true_iff.mp c_57
              have xr : x ≠ r := by simpa using wx.2
              have opx : Op x = true := by
                obtain ⟨j, z1, z2⟩ := (hW x (by omega)).mp wx.1
                rw [← z2]; exact itr_op (fr_iff.mp (hP.1 j z1).2).1
              refine a_aloadn_0 (pc := 60) dX10_canCut_60 ?_
              refine a_iloadn_1 (pc := 61) dX10_canCut_61 ?_
              refine a_lloadn_2 (pc := 62) dX10_canCut_62 ?_
              refine a_lload_10 (pc := 63) dX10_canCut_63 ?_
              refine a_ldc2 (pc := 65) dX10_canCut_65 w_695 ?_
              refine a_lxor (pc := 68) dX10_canCut_68 ?_
              refine a_land (pc := 69) dX10_canCut_69 ?_
              refine a_topl (bL (mn1 Op x)) (bL_andn _ _) ?_
              refine a_iload_4 (pc := 70) dX10_canCut_70 ?_
              refine a_iconst (pc := 72) (v := nI 1) dX10_canCut_72 (by decide) ?_
              refine n_isub dX10_canCut_73 (by omega) ?_
              refine a_topi (nI (c9)) rfl ?_
              refine cv_X10_45 (pc := 74) rfl dX10_canCut_74 hm1.ob (Nat.le_of_ble_eq_true rfl) ?_
              refine ihn (by omega) hm1 (by omega) (fun h8 R8 y8 hy8 hm8 => ?_)
              refine b_if_eq (pc := 77) (tgt := 82) dX10_canCut_77 (by decide) (fun c_77 => ?_) (fun c_77 => ?_)
              · have hN2 : ∀ m, m < x + 1 → W m = true → m ≠ r → ¬ CUF (ga v) r c9 0 (mn1 Op m) := fun m hm9 z1 z2 z3 => by
                  by_cases z : m = x
                  · subst z; rw [hy8.mpr z3] at c_77; cases c_77
                  · exact hX m (by omega) z1 z2 z3
                refine a_iinc_9 (pc := 82) (v := nI (x + 1)) dX10_canCut_82 (nI_add _ _) (by decide) (by first | rfl | trivial) ?_
                refine a_goto (pc := 85) (tgt := 32) dX10_canCut_85 (by decide) ?_
                refine a_ls (ls' := [some _, some _, some _, none, some _, some _, none, some _, none, some _, none, none, none]) ⟨rfl, rfl, rfl, rfl, rfl, rfl, rfl, trivial⟩ ?_
                exact ih (x + 1) _ _ (by omega) (by omega) hN2 hm8
              · refine a_iconst (pc := 80) (v := nI 1) dX10_canCut_80 (by decide) ?_
                refine a_topi (bI true) (by decide) ?_
                exact a_zret (pc := 81) dX10_canCut_81 rfl (by first | rfl | exact bI_nar _ | decide) (zf hz) (k _ _ true ⟨fun _ => CUF_s (f' := 0) ⟨Nat.zero_le x, by omega, xr, opx⟩ (Nat.le_refl 0) (hy8.mp c_77), fun _ => rfl⟩ hm8)
      exact lp 38 0 _ _ (by omega) (by omega) (fun m hm => absurd hm (Nat.not_lt_zero m)) hmS
set_option maxRecDepth 100000 in
set_option maxHeartbeats 4000000 in
theorem w_fewestRooms {G : Cx} {d : Nat} {h h0 : List va_E} {v : Cv} {R : Nat → Int64} {Q : Option Value → List va_E → Prop} (hd : 7 ≤ d) (hz : gz G = false) (hm : YQ G h0 h v R) {r : Nat} (hr : r < 36) (k : ∀ h1 R1 y, ((cK v r = true ∧ y = 0) ∨ (cK v r = false ∧ ∃ n, WL (opV v) (ga v) r n ∧ y = if n = 0 then -2 else nI n)) → YQ G h0 h1 v R1 → Q (some (.int y)) h1) : AM G yX10_fewestRooms cX10_fewestRooms 4 (some .int) d 0 0 [.ref (gB G + 55), .int (nI (r))] h Q := by
  obtain ⟨d, rfl, he⟩ := dpos hd
  refine AM.of [some (.ref (gB G + 55)), some (.int (nI (r))), none, none] pnX10 (Nat.le_of_ble_eq_true rfl) (by simp [lsub, lvI, Value.category]) ?_
  refine a_aloadn_0 (pc := 0) dX10_fewestRooms_0 ?_
  refine gf_X10_15 (pc := 1) rfl dX10_fewestRooms_1 hm.ob ?_
  refine a_iloadn_1 (pc := 4) dX10_fewestRooms_4 ?_
  refine cv_X10_19 (pc := 5) rfl dX10_fewestRooms_5 hm.now.1 (Nat.le_of_ble_eq_true rfl) ?_
  refine x_isDark (by omega) hz hm.now (by omega) ?_
  refine b_if_eq (pc := 8) (tgt := 13) dX10_fewestRooms_8 (by decide) (fun c_8 => ?_) (fun c_8 => ?_)
  · refine a_aloadn_0 (pc := 13) dX10_fewestRooms_13 ?_
    refine a_iloadn_1 (pc := 14) dX10_fewestRooms_14 ?_
    refine a_aloadn_0 (pc := 15) dX10_fewestRooms_15 ?_
    refine cv_X10_25 (pc := 16) rfl dX10_fewestRooms_16 hm.ob (Nat.le_of_ble_eq_true rfl) ?_
    refine w_open (by omega) hz hm ?_
    refine cv_X10_29 (pc := 19) rfl dX10_fewestRooms_19 hm.ob (Nat.le_of_ble_eq_true rfl) ?_
    refine w_shortestWay (by omega) hz hm rfl (by omega) (fun hS RS hN hmS => ?_) (fun hS RS s P W hP hG hW hmS => ?_)
    · 
      refine a_lstoren_2 (pc := 22) dX10_fewestRooms_22 (by decide) (by first | rfl | trivial) ?_
      refine a_lloadn_2 (pc := 23) dX10_fewestRooms_23 ?_
      refine a_lconst (pc := 24) (v := 0) dX10_fewestRooms_24 (by decide) ?_
      refine a_lcmp (pc := 25) dX10_fewestRooms_25 ?_
      refine a_if_ne (pc := 26) (tgt := 34) dX10_fewestRooms_26 (by decide) (fun c_26 => absurd (by decide) c_26) (fun c_26 => ?_)
      refine a_bipush (pc := 29) (v := (-2)) dX10_fewestRooms_29 (by decide) ?_
      refine a_goto (pc := 31) (tgt := 38) dX10_fewestRooms_31 (by decide) ?_
      exact a_iret (pc := 38) dX10_fewestRooms_38 rfl (zf hz) (by first | exact k _ _ _ (Or.inr ⟨c_8, 0, Or.inl ⟨rfl, hN⟩, rfl⟩) hmS | exact k _ _ _ (Or.inr ⟨c_8, s + 1, hP.WL hG, (if_neg (Nat.succ_ne_zero s)).symm⟩) hmS)
    · have rW : W r = true := (hW r (by omega)).mpr ⟨0, Nat.zero_le s, hP.zero⟩
      have wne : ¬ lg_cmp (bL W) 0 = 0 := fun z => by
        rw [bit_0] at z; rw [z r (by omega)] at rW; cases rW
      refine a_lstoren_2 (pc := 22) dX10_fewestRooms_22 (by decide) (by first | rfl | trivial) ?_
      refine a_lloadn_2 (pc := 23) dX10_fewestRooms_23 ?_
      refine a_lconst (pc := 24) (v := 0) dX10_fewestRooms_24 (by decide) ?_
      refine a_lcmp (pc := 25) dX10_fewestRooms_25 ?_
      refine a_if_ne (pc := 26) (tgt := 34) dX10_fewestRooms_26 (by decide) (fun c_26 => ?_) (fun c_26 => absurd c_26 wne)
      refine a_lloadn_2 (pc := 34) dX10_fewestRooms_34 ?_
      refine cs_X10_33 (pc := 35) rfl dX10_fewestRooms_35 (Nat.le_of_ble_eq_true rfl) ?_
      refine x_bitCount (by omega) hz ?_
      refine a_topi (nI (s + 1)) (congrArg nI ((ct_bL W).trans (ctn_P s P W (fun j hj => (hP.1 j hj).1) (fun i j hi hj e => hP.inj hi hj e) hW))) ?_
      exact a_iret (pc := 38) dX10_fewestRooms_38 rfl (zf hz) (by first | exact k _ _ _ (Or.inr ⟨c_8, 0, Or.inl ⟨rfl, hN⟩, rfl⟩) hmS | exact k _ _ _ (Or.inr ⟨c_8, s + 1, hP.WL hG, (if_neg (Nat.succ_ne_zero s)).symm⟩) hmS)
  · refine a_iconst (pc := 11) (v := nI 0) dX10_fewestRooms_11 (by decide) ?_
    exact a_iret (pc := 12) dX10_fewestRooms_12 rfl (zf hz) (k _ _ _ (Or.inl ⟨c_8, rfl⟩) hm)
set_option maxRecDepth 100000 in
set_option maxHeartbeats 4000000 in
theorem w_fewestLights {G : Cx} {d : Nat} {h h0 : List va_E} {v : Cv} {R : Nat → Int64} {Q : Option Value → List va_E → Prop} (hd : 12 ≤ d) (hz : gz G = false) (hm : YQ G h0 h v R) {r : Nat} (hr : r < 36) (k : ∀ h1 R1 y, ((clit v r = true ∧ y = 0) ∨ (clit v r = false ∧ (cK v r = true ∨ ga v r = true) ∧ y = -2) ∨ (clit v r = false ∧ cK v r = false ∧ ga v r = false ∧ ∃ n, n ≤ 4 ∧ y = nI n ∧ (∀ m, m < n → ¬ CUF (ga v) r m 0 (opV v)) ∧ (n < 4 → CUF (ga v) r n 0 (opV v)))) → YQ G h0 h1 v R1 → Q (some (.int y)) h1) : AM G yX10_fewestLights cX10_fewestLights 3 (some .int) d 0 0 [.ref (gB G + 55), .int (nI (r))] h Q := by
  obtain ⟨d, rfl, he⟩ := dpos hd
  refine AM.of [some (.ref (gB G + 55)), some (.int (nI (r))), none] pnX10 (Nat.le_of_ble_eq_true rfl) (by simp [lsub, lvI, Value.category]) ?_
  refine a_aloadn_0 (pc := 0) dX10_fewestLights_0 ?_
  refine gf_X10_15 (pc := 1) rfl dX10_fewestLights_1 hm.ob ?_
  refine a_iloadn_1 (pc := 4) dX10_fewestLights_4 ?_
  refine cv_X10_39 (pc := 5) rfl dX10_fewestLights_5 hm.now.1 (Nat.le_of_ble_eq_true rfl) ?_
  refine x_isLit (by omega) hz hm.now (by omega) ?_
  refine b_if_eq (pc := 8) (tgt := 13) dX10_fewestLights_8 (by decide) (fun c_8 => ?_) (fun c_8 => ?_)
  · refine a_aloadn_0 (pc := 13) dX10_fewestLights_13 ?_
    refine gf_X10_15 (pc := 14) rfl dX10_fewestLights_14 hm.ob ?_
    refine a_iloadn_1 (pc := 17) dX10_fewestLights_17 ?_
    refine cv_X10_19 (pc := 18) rfl dX10_fewestLights_18 hm.now.1 (Nat.le_of_ble_eq_true rfl) ?_
    refine x_isDark (by omega) hz hm.now (by omega) ?_
    refine b_if_ne (pc := 21) (tgt := 37) dX10_fewestLights_21 (by decide) (fun c_21 => ?_) (fun c_21 => ?_)
    · refine a_bipush (pc := 37) (v := (-2)) dX10_fewestLights_37 (by decide) ?_
      exact a_iret (pc := 39) dX10_fewestLights_39 rfl (zf hz) (by first | exact k _ _ _ (Or.inr (Or.inl ⟨c_8, Or.inl c_21, rfl⟩)) hm | exact k _ _ _ (Or.inr (Or.inl ⟨c_8, Or.inr c_34, rfl⟩)) hm)
    · refine a_aloadn_0 (pc := 24) dX10_fewestLights_24 ?_
      refine cv_X10_42 (pc := 25) rfl dX10_fewestLights_25 hm.ob (Nat.le_of_ble_eq_true rfl) ?_
      refine w_gates (by omega) hz hm ?_
      refine a_iloadn_1 (pc := 28) dX10_fewestLights_28 ?_
      refine a_lushr (pc := 29) dX10_fewestLights_29 ?_
      refine a_lconst (pc := 30) (v := 1) dX10_fewestLights_30 (by decide) ?_
      refine a_land (pc := 31) dX10_fewestLights_31 ?_
      refine a_lconst (pc := 32) (v := 0) dX10_fewestLights_32 (by decide) ?_
      refine a_lcmp (pc := 33) dX10_fewestLights_33 ?_
      refine a_if_eq (pc := 34) (tgt := 40) dX10_fewestLights_34 (by decide) (fun c_34 => ?_) (fun c_34 => ?_)
      · rw [lushr_bit _ (by omega)] at c_34
        refine a_iconst (pc := 40) (v := nI 0) dX10_fewestLights_40 (by decide) ?_
        refine a_istoren_2 (pc := 41) dX10_fewestLights_41 (by decide) (by first | rfl | trivial) ?_
        have l0 := c_8
        have l1 := c_21
        have l2 := c_34
        have lp : ∀ (n : Nat) (x : Nat) (R1 : Nat → Int64) (h1 : List va_E), 5 - x < n → (x ≤ 4) → (∀ m, m < x → ¬ CUF (ga v) r m 0 (opV v)) → (YQ G h0 h1 v R1) → AW G yX10_fewestLights cX10_fewestLights 3 (some .int) (rmx (d + 1) 0 0) (ZQ G 0 0 (h.length + 0) Q) 0 0 42 [some (.ref (gB G + 55)), some (.int (nI (r))), some (.int (nI (x)))] [] h1 := by
          intro n
          induction n with
          | zero => intro x R1 h1 hn; exact absurd hn (Nat.not_lt_zero _)
          | succ n ih =>
            intro x R1 h1 hn hx hN hm1
            refine a_iloadn_2 (pc := 42) dX10_fewestLights_42 ?_
            refine a_iconst (pc := 43) (v := nI 4) dX10_fewestLights_43 (by decide) ?_
            refine n_icmp_ge (tgt := 66) dX10_fewestLights_44 (by decide) (by omega) (by decide) (fun c_44 => ?_) (fun c_44 => ?_)
            · refine a_iloadn_2 (pc := 66) dX10_fewestLights_66 ?_
              exact a_iret (pc := 67) dX10_fewestLights_67 rfl (zf hz) (by first | exact k _ _ _ (Or.inr (Or.inr ⟨l0, l1, l2, x, by omega, rfl, hN, fun q => by omega⟩)) hm1 | exact k _ _ _ (Or.inr (Or.inr ⟨l0, l1, l2, x, by omega, rfl, hN, fun q => hy8.mp c_57⟩)) hm1)
            · refine a_aloadn_0 (pc := 47) dX10_fewestLights_47 ?_
              refine a_iloadn_1 (pc := 48) dX10_fewestLights_48 ?_
              refine a_aloadn_0 (pc := 49) dX10_fewestLights_49 ?_
              refine cv_X10_25 (pc := 50) rfl dX10_fewestLights_50 hm1.ob (Nat.le_of_ble_eq_true rfl) ?_
              refine w_open (by omega) hz hm1 ?_
              refine a_iloadn_2 (pc := 53) dX10_fewestLights_53 ?_
              refine cv_X10_45 (pc := 54) rfl dX10_fewestLights_54 hm1.ob (Nat.le_of_ble_eq_true rfl) ?_
              refine w_canCut hz (by omega) x (by omega) hm1 (by omega) (fun h8 R8 y8 hy8 hm8 => ?_)
              refine b_if_ne (pc := 57) (tgt := 66) dX10_fewestLights_57 (by decide) (fun c_57 => ?_) (fun c_57 => ?_)
              · refine a_iloadn_2 (pc := 66) dX10_fewestLights_66 ?_
                exact a_iret (pc := 67) dX10_fewestLights_67 rfl (zf hz) (by first | exact k _ _ _ (Or.inr (Or.inr ⟨l0, l1, l2, x, by omega, rfl, hN, fun q => by omega⟩)) hm8 | exact k _ _ _ (Or.inr (Or.inr ⟨l0, l1, l2, x, by omega, rfl, hN, fun q => hy8.mp c_57⟩)) hm8)
              · refine a_iinc_2 (pc := 60) (v := nI (x + 1)) dX10_fewestLights_60 (nI_add _ _) (by decide) (by first | rfl | trivial) ?_
                refine a_goto (pc := 63) (tgt := 42) dX10_fewestLights_63 (by decide) ?_
                exact ih (x + 1) _ _ (by omega) (by omega) (fun m hm q => by
                  by_cases e : m = x
                  · rw [e] at q; rw [hy8.mpr q] at c_57; cases c_57
                  · exact hN m (by omega) q) hm8
        exact lp 6 0 _ _ (by omega) (by omega) (fun m hm => absurd hm (Nat.not_lt_zero m)) hm
      · rw [lushr_bit _ (by omega), Bool.not_eq_false] at c_34
        refine a_bipush (pc := 37) (v := (-2)) dX10_fewestLights_37 (by decide) ?_
        exact a_iret (pc := 39) dX10_fewestLights_39 rfl (zf hz) (by first | exact k _ _ _ (Or.inr (Or.inl ⟨c_8, Or.inl c_21, rfl⟩)) hm | exact k _ _ _ (Or.inr (Or.inl ⟨c_8, Or.inr c_34, rfl⟩)) hm)
  · refine a_iconst (pc := 11) (v := nI 0) dX10_fewestLights_11 (by decide) ?_
    exact a_iret (pc := 12) dX10_fewestLights_12 rfl (zf hz) (k _ _ _ (Or.inl ⟨c_8, rfl⟩) hm)
