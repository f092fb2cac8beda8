/-! THE CLASS: the hill, by turns, drawn -/
section SLs
variable {G : Cx} {y : MethodName} {cc : ByteArray} {mL : Nat} {rt : Option FieldType} {R : Room} {Z : List Frame → Array Value → State → State → Prop} {cn sn pc : Nat} {ls : List (Option Value)} {st : List Value} {h : List va_E}
theorem sl_65 {j : Nat} (H : h[65]? = some (shsO G)) (hd : decode cc pc = .ok (.aaload, 1)) (hj : j < 6) (kk : AW G y cc mL rt R Z cn sn (pc + 1) ls (.ref (gB G + (66 + 2 * j)) :: st) h) : AW G y cc mL rt R Z cn sn pc ls (.int (nI j) :: .ref (gB G + 65) :: st) h :=
  a_aald 4 j hd rfl hj (by decide) rfl H rfl kk
end SLs
section ShRs
variable {b : MB} {q so sz : Nat} {sc : Int32} {rw : Bool} {el : Nat → Int64}
theorem nI_nn {n : Nat} (h : n < 2147483648) : ¬ nI n < 0 := fun z => by
  have := Int32.lt_iff_toInt_lt.mp z
  rw [nI_toInt h] at this
  have h0 : (0 : Int32).toInt = 0 := by decide
  omega
theorem shr_kind (hS : gBodies b ≤ 50) (R0 : ShR b q sc rw so sz el) : (rw = false ∧ sc = gShelf b q ∧ ((sc = -1 ∧ gShelf b q < 0) ∨ (¬ sc = -1 ∧ ¬ gShelf b q < 0 ∧ gShelf b q < nI 50))) ∨ (rw = true ∧ ¬ gShelf b q < 0 ∧ ¬ gShelf b q < nI 50 ∧ gShelf b q = nI (50 + so)) := by
  obtain ⟨h5, ⟨a1, a2, a3⟩ | ⟨a1, a2, _⟩⟩ := R0
  · refine Or.inl ⟨a1, a2, ?_⟩
    rcases a3 with a3 | ⟨n, hn, a3⟩
    · exact Or.inl ⟨a2.trans a3, by rw [a3]; decide⟩
    · refine Or.inr ⟨?_, by rw [a3]; exact nI_nn (by omega), by rw [a3]; exact (nI_ltI (by omega) (by decide)).mpr (by omega)⟩
      rw [a2, a3]
      exact nI_nm1 (by omega)
  · refine Or.inr ⟨a1, by rw [a2]; exact nI_nn (by omega), fun z => ?_, a2⟩
    rw [a2] at z
    have := (nI_ltI (by omega) (by decide)).mp z
    omega
theorem shr_e (hS : gBodies b ≤ 50) (R0 : ShR b q sc rw so sz el) : (!rw && decide (sc = -1)) = true ↔ gShelf b q < 0 := by
  rcases shr_kind hS R0 with ⟨a1, a2, ⟨a3, a4⟩ | ⟨a3, a4, a5⟩⟩ | ⟨a1, a2, a3, a4⟩
  · rw [a1, a3]; exact ⟨fun _ => a4, fun _ => by decide⟩
  · rw [a1, decide_eq_false a3]; exact ⟨fun z => by simp at z, fun z => absurd z a4⟩
  · rw [a1]; exact ⟨fun z => by simp at z, fun z => absurd z a2⟩
theorem shr_r (hS : gBodies b ≤ 50) (R0 : ShR b q sc rw so sz el) (hn : ¬ gShelf b q < 0) : rw = true ↔ ¬ gShelf b q < nI 50 := by
  rcases shr_kind hS R0 with ⟨a1, a2, ⟨a3, a4⟩ | ⟨a3, a4, a5⟩⟩ | ⟨a1, a2, a3, a4⟩
  · exact absurd a4 hn
  · rw [a1]; exact ⟨fun z => (by cases z), fun z => absurd a5 z⟩
  · rw [a1]; exact ⟨fun _ => a3, fun _ => rfl⟩
theorem shr_o (hS : gBodies b ≤ 50) (R0 : ShR b q sc rw so sz el) {s : Nat} (hs : s < 5) : (rw && decide (so = s)) = true ↔ gShelf b q = nI (50 + s) := by
  have h5 := R0.1
  rcases shr_kind hS R0 with ⟨a1, a2, ⟨a3, a4⟩ | ⟨a3, a4, a5⟩⟩ | ⟨a1, a2, a3, a4⟩
  · rw [a1, Bool.false_and]
    exact ⟨fun z => (by cases z), fun z => by rw [z] at a4; exact absurd a4 (nI_nn (by omega))⟩
  · rw [a1, Bool.false_and]
    exact ⟨fun z => (by cases z), fun z => by
      rw [z] at a5
      have := (nI_ltI (by omega) (by decide)).mp a5
      omega⟩
  · rw [a1, Bool.true_and, decide_eq_true_iff, a4]
    exact ⟨fun z => by rw [z], fun z => by have := (nI_eq (by omega) (by omega)).mp z; omega⟩
theorem shr_el (hS : gBodies b ≤ 50) (R0 : ShR b q sc rw so sz el) {s : Nat} (hs : s < 5) (h : gShelf b q = nI (50 + s)) : so = s ∧ sz = gMany b q ∧ (∀ j, j < 60 → el j = gItems b (60 * q + j)) ∧ (so = 0 → ∀ j, j < 60 → BYt (gItems b (60 * q + j))) := by
  have h2 := (shr_o hS R0 hs).mpr h
  have h2 := Bool.and_eq_true_iff.mp h2
  obtain ⟨h5, ⟨a1, a2, a3⟩ | ⟨a1, a2, a3, a4, a5⟩⟩ := R0
  · rw [a1] at h2; cases h2.1
  · exact ⟨of_decide_eq_true h2.2, a3, a4, a5⟩
end ShRs
theorem fs_congr {P P' : Nat → Bool} : ∀ m i, (∀ j, i ≤ j → j < i + m → P j = P' j) → fsrch P m i = fsrch P' m i
  | 0, _, _ => rfl
  | m + 1, i, h => by
    rw [fsrch, fsrch, h i (Nat.le_refl i) (by omega), fs_congr m (i + 1) (fun j h1 h2 => h j (by omega) (by omega))]
theorem unl_el {F : Lf} {x : Cv} {el el' : Nat → Int64} {sz : Nat} (h : ∀ j, j < 60 → el j = el' j) : unl F x el sz = unl F x el' sz := by
  unfold unl
  exact fs_congr _ _ (fun j _ hj => by rw [h j (by omega)])
theorem fitP_el {F : Lf} {v : Cv} {el el' : Nat → Int64} {sz r w : Nat} (h : ∀ j, j < 60 → el j = el' j) : fitP F v el sz r w = fitP F v el' sz r w := by
  funext c
  unfold fitP
  rw [unl_el h]
theorem lg_b {b : MB} {dd : Int32} (h : inR 0 (nI 5) dd = false) : lgR b dd = -1 := by unfold lgR; rw [h]; rfl
theorem lg_i {b : MB} {q : Nat} (hq : q < 6) : lgR b (nI q) = if gShelf b q < 0 then -11 else if gShelf b q = nI 53 then nI 1 else -12 := by
  unfold lgR
  rw [if_pos (show inR 0 (nI 5) (nI q) = true by rw [inR_nI (by decide) (by omega)]; exact decide_eq_true (by omega)), iN_nI (by omega)]
set_option maxRecDepth 100000 in
set_option maxHeartbeats 4000000 in
theorem p_hill {G : Cx} {d c : Nat} {h h0 : List va_E} {b : MB} {v : Cv} {F : Lf} {Q : Option Value → List va_E → Prop} (hd : 4 ≤ d) (hz : gz G = false) (hC : COb G h0 h b v F c) {dd : Int32} (k0 : lgR b dd < 0 → Q (some (.int (lgR b dd))) h) (k1 : ∀ q, q < 6 → dd = nI q → gShelf b q = nI 53 → Q (some (.int (nI 0))) h) : AM G yX11_hillRefusal cX11_hillRefusal 2 (some .int) d 0 0 [.ref (gB G + 0), .int (dd)] h Q := by
  obtain ⟨d, rfl, he⟩ := dpos hd
  refine AM.of [some (.ref (gB G + 0)), some (.int (dd))] pnX11 (Nat.le_of_ble_eq_true rfl) (by simp [lsub, lvI, Value.category]) ?_
  refine a_iloadn_1 (pc := 0) dX11_hillRefusal_0 ?_
  refine cs_X11_97 (pc := 1) rfl dX11_hillRefusal_1 (Nat.le_of_ble_eq_true rfl) ?_
  refine p_isShelf (by omega) hz ?_
  refine b_if_ne (pc := 4) (tgt := 9) dX11_hillRefusal_4 (by decide) (fun c_4 => ?_) (fun c_4 => ?_)
  · obtain ⟨n_dd, h_dd, rfl⟩ := inR_of (by decide) c_4
    have i_dd : iN (nI n_dd) = n_dd := iN_nI (by omega)
    refine a_aloadn_0 (pc := 9) dX11_hillRefusal_9 ?_
    refine gf_X11_81 (pc := 10) rfl dX11_hillRefusal_10 hC.c0 ?_
    refine a_iloadn_1 (pc := 13) dX11_hillRefusal_13 ?_
    obtain ⟨sc, rw, so, sz, el, S0, R0⟩ := hC.toQ (q := n_dd) (by omega)
    have hB := hC.2.1.2.2.2.1.1
    refine sl_65 (j := n_dd) hC.c65 dX11_hillRefusal_14 (by omega) ?_
    refine cv_X11_105 (pc := 15) rfl dX11_hillRefusal_15 S0.2.2.1 (Nat.le_of_ble_eq_true rfl) ?_
    refine s_isEmpty (by omega) hz S0 ?_
    refine b_if_eq (pc := 18) (tgt := 24) dX11_hillRefusal_18 (by decide) (fun c_18 => ?_) (fun c_18 => ?_)
    · have g0 : ¬ gShelf b n_dd < 0 := fun z => by rw [(shr_e hB R0).mpr z] at c_18; cases c_18
      refine a_aloadn_0 (pc := 24) dX11_hillRefusal_24 ?_
      refine gf_X11_81 (pc := 25) rfl dX11_hillRefusal_25 hC.c0 ?_
      refine a_iloadn_1 (pc := 28) dX11_hillRefusal_28 ?_
      refine sl_65 (j := n_dd) hC.c65 dX11_hillRefusal_29 (by omega) ?_
      refine a_iconst (pc := 30) (v := nI 3) dX11_hillRefusal_30 (by decide) ?_
      refine cv_X11_109 (pc := 31) rfl dX11_hillRefusal_31 S0.2.2.1 (Nat.le_of_ble_eq_true rfl) ?_
      refine s_isRowOf (by omega) hz S0 (by decide) (by have := R0.1; omega) ?_
      refine b_if_eq (pc := 34) (tgt := 41) dX11_hillRefusal_34 (by decide) (fun c_34 => ?_) (fun c_34 => ?_)
      · refine a_bipush (pc := 41) (v := (-12)) dX11_hillRefusal_41 (by decide) ?_
        exact a_iret (pc := 43) dX11_hillRefusal_43 rfl (zf hz) (by first | exact k1 n_dd (by omega) rfl ((shr_o hB R0 (by decide)).mp c_34) | (have g1 : ¬ gShelf b n_dd = nI 53 := fun z => absurd ((shr_o hB R0 (s := 3) (by decide)).mpr z) (by rw [c_34]; simp); have e := (lg_i (b := b) (q := n_dd) (by omega)).trans ((if_neg g0).trans (if_neg g1)); have k0 := k0; rw [e] at k0; exact k0 (by decide)))
      · refine a_iconst (pc := 37) (v := nI 0) dX11_hillRefusal_37 (by decide) ?_
        refine a_goto (pc := 38) (tgt := 43) dX11_hillRefusal_38 (by decide) ?_
        exact a_iret (pc := 43) dX11_hillRefusal_43 rfl (zf hz) (by first | exact k1 n_dd (by omega) rfl ((shr_o hB R0 (by decide)).mp c_34) | (have g1 : ¬ gShelf b n_dd = nI 53 := fun z => absurd ((shr_o hB R0 (s := 3) (by decide)).mpr z) (by rw [c_34]; simp); have e := (lg_i (b := b) (q := n_dd) (by omega)).trans ((if_neg g0).trans (if_neg g1)); have k0 := k0; rw [e] at k0; exact k0 (by decide)))
    · have g0 := (shr_e hB R0).mp c_18
      refine a_bipush (pc := 21) (v := (-11)) dX11_hillRefusal_21 (by decide) ?_
      exact a_iret (pc := 23) dX11_hillRefusal_23 rfl (zf hz) (by have e := (lg_i (b := b) (q := n_dd) (by omega)).trans (if_pos g0); have k0 := k0; rw [e] at k0; exact k0 (by decide))
  · refine a_iconst (pc := 7) (v := (-1)) dX11_hillRefusal_7 (by decide) ?_
    exact a_iret (pc := 8) dX11_hillRefusal_8 rfl (zf hz) (by have e := lg_b (b := b) c_4; have k0 := k0; rw [e] at k0; exact k0 (by decide))
set_option maxRecDepth 100000 in
set_option maxHeartbeats 4000000 in
theorem p_judge {G : Cx} {d c : Nat} {h h0 : List va_E} {b : MB} {v : Cv} {F : Lf} {Q : Option Value → List va_E → Prop} (hd : 12 ≤ d) (hz : gz G = false) (hC : COb G h0 h b v F c) {dd : Int32} (k0 : lgR b dd < 0 → COb G h0 h b v F c → Q (some (.int (lgR b dd))) h) (k1 : ∀ q, q < 6 → dd = nI q → gShelf b q = nI 53 → ∀ h1, COb G h0 h1 b v F c → Q (some (.int (unl F v (elO b q) (gMany b q)))) h1) : AM G yX11_judge cX11_judge 3 (some .int) d 0 0 [.ref (gB G + 0), .int (dd)] h Q := by
  obtain ⟨d, rfl, he⟩ := dpos hd
  refine AM.of [some (.ref (gB G + 0)), some (.int (dd)), none] pnX11 (Nat.le_of_ble_eq_true rfl) (by simp [lsub, lvI, Value.category]) ?_
  refine a_aloadn_0 (pc := 0) dX11_judge_0 ?_
  refine a_iloadn_1 (pc := 1) dX11_judge_1 ?_
  refine cv_X11_218 (pc := 2) rfl dX11_judge_2 hC.c0 (Nat.le_of_ble_eq_true rfl) ?_
  refine p_hill (by omega) hz hC (fun hlg => ?_) (fun q hq hdd hg => ?_)
  · have hne : ¬ lgR b dd = 0 := fun z => by rw [z] at hlg; exact absurd hlg (by decide)
    refine a_istoren_2 (pc := 5) dX11_judge_5 (by decide) (by first | rfl | trivial) ?_
    refine a_iloadn_2 (pc := 6) dX11_judge_6 ?_
    refine a_if_eq (pc := 7) (tgt := 14) dX11_judge_7 (by decide) (fun c_7 => absurd c_7 hne) (fun c_7 => ?_)
    refine a_iloadn_2 (pc := 10) dX11_judge_10 ?_
    refine a_goto (pc := 11) (tgt := 27) dX11_judge_11 (by decide) ?_
    exact a_iret (pc := 27) dX11_judge_27 rfl (zf hz) (by first | exact k0 hlg hC | (rw [hy1]; exact k1 q hq rfl hg _ hC))
  · subst hdd
    obtain ⟨sc, rw, so, sz, el, S0, R0⟩ := hC.toQ (q := q) hq
    have hB := hC.2.1.2.2.2.1.1
    obtain ⟨e1, e2, e3, e4⟩ := shr_el hB R0 (s := 3) (by decide) hg
    subst e2
    refine a_istoren_2 (pc := 5) dX11_judge_5 (by decide) (by first | rfl | trivial) ?_
    refine a_iloadn_2 (pc := 6) dX11_judge_6 ?_
    refine n_if_eq (tgt := 14) dX11_judge_7 (by decide) (by decide) (fun c_7 => ?_) (fun c_7 => by omega)
    refine a_aloadn_0 (pc := 14) dX11_judge_14 ?_
    refine gf_X11_38 (pc := 15) rfl dX11_judge_15 hC.c0 ?_
    refine a_aloadn_0 (pc := 18) dX11_judge_18 ?_
    refine gf_X11_81 (pc := 19) rfl dX11_judge_19 hC.c0 ?_
    refine a_iloadn_1 (pc := 22) dX11_judge_22 ?_
    refine sl_65 (j := q) hC.c65 dX11_judge_23 (by omega) ?_
    obtain ⟨s, u, T0⟩ := hC.toT
    refine cv_X11_221 (pc := 24) rfl dX11_judge_24 T0.th (Nat.le_of_ble_eq_true rfl) ?_
    refine q_firstUnlike (by omega) hz T0 (by omega) S0.2.2 (fun y1 h1 x1 hy1 T1 => ?_)
    have hC1 := COb.th T1 hC
    rw [unl_el e3] at hy1
    exact a_iret (pc := 27) dX11_judge_27 rfl (zf hz) (by first | exact k0 hlg hC1 | (rw [hy1]; exact k1 q hq rfl hg _ hC1))
set_option maxRecDepth 100000 in
set_option maxHeartbeats 4000000 in
theorem p_draughts {G : Cx} {d c : Nat} {h h0 : List va_E} {b : MB} {v : Cv} {F : Lf} {Q : Option Value → List va_E → Prop} (hd : 13 ≤ d) (hz : gz G = false) (hC : COb G h0 h b v F c) {dd r w : Int32} (kB : (inR 0 (nI 35) r && inR 0 (nI 1) w) = false → COb G h0 h b v F c → Q (some (.int (-1))) h) (k0 : (inR 0 (nI 35) r && inR 0 (nI 1) w) = true → lgR b dd < 0 → COb G h0 h b v F c → Q (some (.int (lgR b dd))) h) (k1 : ∀ q n m, q < 6 → dd = nI q → n < 36 → r = nI n → w = nI m → m ≤ 1 → gShelf b q = nI 53 → ∀ h1, COb G h0 h1 b v F c → Q (some (.int (if m = 0 then nI (fitN F v (elO b q) (gMany b q) n 1 0) else fitL F v (elO b q) (gMany b q) n 1 0))) h1) : AM G yX11_draughts cX11_draughts 5 (some .int) d 0 0 [.ref (gB G + 0), .int (dd), .int (r), .int (w)] h Q := by
  obtain ⟨d, rfl, he⟩ := dpos hd
  refine AM.of [some (.ref (gB G + 0)), some (.int (dd)), some (.int (r)), some (.int (w)), none] pnX11 (Nat.le_of_ble_eq_true rfl) (by simp [lsub, lvI, Value.category]) ?_
  refine a_iloadn_2 (pc := 0) dX11_draughts_0 ?_
  refine cs_X11_140 (pc := 1) rfl dX11_draughts_1 (Nat.le_of_ble_eq_true rfl) ?_
  refine p_isRoom (by omega) hz ?_
  refine b_if_eq (pc := 4) (tgt := 16) dX11_draughts_4 (by decide) (fun c_4 => ?_) (fun c_4 => ?_)
  · refine a_iconst (pc := 16) (v := (-1)) dX11_draughts_16 (by decide) ?_
    exact a_iret (pc := 17) dX11_draughts_17 rfl (zf hz) (kB (by simp [c_4]) hC)
  · obtain ⟨n_r, h_r, rfl⟩ := inR_of (by decide) c_4
    have i_r : iN (nI n_r) = n_r := iN_nI (by omega)
    refine a_iloadn_3 (pc := 7) dX11_draughts_7 ?_
    refine a_iconst (pc := 8) (v := nI 0) dX11_draughts_8 (by decide) ?_
    refine a_iconst (pc := 9) (v := nI 1) dX11_draughts_9 (by decide) ?_
    refine cs_X11_101 (pc := 10) rfl dX11_draughts_10 (Nat.le_of_ble_eq_true rfl) ?_
    refine x_within (by omega) hz ?_
    refine a_topi (bI (inR 0 (nI 1) w)) rfl ?_
    refine b_if_ne (pc := 13) (tgt := 18) dX11_draughts_13 (by decide) (fun c_13 => ?_) (fun c_13 => ?_)
    · obtain ⟨n_w, h_w, rfl⟩ := inR_of (by decide) c_13
      have i_w : iN (nI n_w) = n_w := iN_nI (by omega)
      refine a_aloadn_0 (pc := 18) dX11_draughts_18 ?_
      refine a_iloadn_1 (pc := 19) dX11_draughts_19 ?_
      refine cv_X11_218 (pc := 20) rfl dX11_draughts_20 hC.c0 (Nat.le_of_ble_eq_true rfl) ?_
      refine p_hill (by omega) hz hC (fun hlg => ?_) (fun q hq hdd hg => ?_)
      · have hne : ¬ lgR b dd = 0 := fun z => by rw [z] at hlg; exact absurd hlg (by decide)
        refine a_istore_4 (pc := 23) dX11_draughts_23 (by decide) (by first | rfl | trivial) ?_
        refine a_iload_4 (pc := 25) dX11_draughts_25 ?_
        refine a_if_eq (pc := 27) (tgt := 35) dX11_draughts_27 (by decide) (fun c_27 => absurd c_27 hne) (fun c_27 => ?_)
        refine a_iload_4 (pc := 30) dX11_draughts_30 ?_
        refine a_goto (pc := 32) (tgt := 60) dX11_draughts_32 (by decide) ?_
        exact a_iret (pc := 60) dX11_draughts_60 rfl (zf hz) (by first | exact k0 (by simp [c_4, i_r, c_13, i_w]) hlg hC | (rw [hy1]; have k1 := k1 q n_r 0 hq rfl (by omega) rfl rfl (by omega) hg _ hC; rw [if_pos rfl] at k1; rw [if_neg (by simp), fitN, fitP_el e3]; exact k1) | (rw [hy1]; have k1 := k1 q n_r 1 hq rfl (by omega) rfl rfl (by omega) hg _ hC; rw [if_neg (by decide)] at k1; rw [if_pos rfl, fitL, fitP_el e3]; exact k1))
      · subst hdd
        obtain ⟨sc, rw, so, sz, el, S0, R0⟩ := hC.toQ (q := q) hq
        have hB := hC.2.1.2.2.2.1.1
        obtain ⟨e1, e2, e3, e4⟩ := shr_el hB R0 (s := 3) (by decide) hg
        subst e2
        refine a_istore_4 (pc := 23) dX11_draughts_23 (by decide) (by first | rfl | trivial) ?_
        refine a_iload_4 (pc := 25) dX11_draughts_25 ?_
        refine n_if_eq (tgt := 35) dX11_draughts_27 (by decide) (by decide) (fun c_27 => ?_) (fun c_27 => by omega)
        refine a_aloadn_0 (pc := 35) dX11_draughts_35 ?_
        refine gf_X11_38 (pc := 36) rfl dX11_draughts_36 hC.c0 ?_
        refine a_aloadn_0 (pc := 39) dX11_draughts_39 ?_
        refine gf_X11_81 (pc := 40) rfl dX11_draughts_40 hC.c0 ?_
        refine a_iloadn_1 (pc := 43) dX11_draughts_43 ?_
        refine sl_65 (j := q) hC.c65 dX11_draughts_44 (by omega) ?_
        refine a_iloadn_2 (pc := 45) dX11_draughts_45 ?_
        refine a_iconst (pc := 46) (v := nI 1) dX11_draughts_46 (by decide) ?_
        refine a_iloadn_3 (pc := 47) dX11_draughts_47 ?_
        refine a_iconst (pc := 48) (v := nI 1) dX11_draughts_48 (by decide) ?_
        refine n_icmp_ne (tgt := 56) dX11_draughts_49 (by decide) (by omega) (by decide) (fun c_49 => ?_) (fun c_49 => ?_)
        · have wz : n_w = 0 := by omega
          subst wz
          refine a_iconst (pc := 56) (v := nI 0) dX11_draughts_56 (by decide) ?_
          refine a_topi (bI false) (by decide) ?_
          obtain ⟨s, u, T0⟩ := hC.toT
          refine cv_X11_225 (pc := 57) rfl dX11_draughts_57 T0.th (Nat.le_of_ble_eq_true rfl) ?_
          refine q_fitD (by omega) hz T0 (by omega) S0.2.2 (by omega) (le := false) (fun y1 h1 x1 hy1 T1 => ?_)
          have hC1 := COb.th T1 hC
          exact a_iret (pc := 60) dX11_draughts_60 rfl (zf hz) (by first | exact k0 (by simp [c_4, i_r, c_13, i_w, c_49]) hlg hC1 | (rw [hy1]; have k1 := k1 q n_r 0 hq rfl (by omega) rfl rfl (by omega) hg _ hC1; rw [if_pos rfl] at k1; rw [if_neg (by simp), fitN, fitP_el e3]; exact k1) | (rw [hy1]; have k1 := k1 q n_r 1 hq rfl (by omega) rfl rfl (by omega) hg _ hC1; rw [if_neg (by decide)] at k1; rw [if_pos rfl, fitL, fitP_el e3]; exact k1))
        · have wo : n_w = 1 := by omega
          subst wo
          refine a_iconst (pc := 52) (v := nI 1) dX11_draughts_52 (by decide) ?_
          refine a_topi (bI true) (by decide) ?_
          refine a_goto (pc := 53) (tgt := 57) dX11_draughts_53 (by decide) ?_
          obtain ⟨s, u, T0⟩ := hC.toT
          refine cv_X11_225 (pc := 57) rfl dX11_draughts_57 T0.th (Nat.le_of_ble_eq_true rfl) ?_
          refine q_fitD (by omega) hz T0 (by omega) S0.2.2 (by omega) (le := true) (fun y1 h1 x1 hy1 T1 => ?_)
          have hC1 := COb.th T1 hC
          exact a_iret (pc := 60) dX11_draughts_60 rfl (zf hz) (by first | exact k0 (by simp [c_4, i_r, c_13, i_w, c_49]) hlg hC1 | (rw [hy1]; have k1 := k1 q n_r 0 hq rfl (by omega) rfl rfl (by omega) hg _ hC1; rw [if_pos rfl] at k1; rw [if_neg (by simp), fitN, fitP_el e3]; exact k1) | (rw [hy1]; have k1 := k1 q n_r 1 hq rfl (by omega) rfl rfl (by omega) hg _ hC1; rw [if_neg (by decide)] at k1; rw [if_pos rfl, fitL, fitP_el e3]; exact k1))
    · refine a_iconst (pc := 16) (v := (-1)) dX11_draughts_16 (by decide) ?_
      exact a_iret (pc := 17) dX11_draughts_17 rfl (zf hz) (kB (by simp [c_4, i_r, c_13]) hC)
set_option maxRecDepth 100000 in
set_option maxHeartbeats 4000000 in
theorem p_holds {G : Cx} {d c : Nat} {h h0 : List va_E} {b : MB} {v : Cv} {F : Lf} {Q : Option Value → List va_E → Prop} (hd : 13 ≤ d) (hz : gz G = false) (hC : COb G h0 h b v F c) {dd w : Int32} (kB : inR 0 (nI 1) w = false → COb G h0 h b v F c → Q (some (.int (-1))) h) (k0 : inR 0 (nI 1) w = true → lgR b dd < 0 → COb G h0 h b v F c → Q (some (.int (lgR b dd))) h) (k1 : ∀ q m, q < 6 → dd = nI q → w = nI m → m ≤ 1 → gShelf b q = nI 53 → ∀ h1, COb G h0 h1 b v F c → Q (some (.int (if m = 0 then nI (fitN F v (elO b q) (gMany b q) 0 4 1) else fitL F v (elO b q) (gMany b q) 0 4 1))) h1) : AM G yX11_holds cX11_holds 4 (some .int) d 0 0 [.ref (gB G + 0), .int (dd), .int (w)] h Q := by
  obtain ⟨d, rfl, he⟩ := dpos hd
  refine AM.of [some (.ref (gB G + 0)), some (.int (dd)), some (.int (w)), none] pnX11 (Nat.le_of_ble_eq_true rfl) (by simp [lsub, lvI, Value.category]) ?_
  refine a_iloadn_2 (pc := 0) dX11_holds_0 ?_
  refine a_iconst (pc := 1) (v := nI 0) dX11_holds_1 (by decide) ?_
  refine a_iconst (pc := 2) (v := nI 1) dX11_holds_2 (by decide) ?_
  refine cs_X11_101 (pc := 3) rfl dX11_holds_3 (Nat.le_of_ble_eq_true rfl) ?_
  refine x_within (by omega) hz ?_
  refine a_topi (bI (inR 0 (nI 1) w)) rfl ?_
  refine b_if_ne (pc := 6) (tgt := 11) dX11_holds_6 (by decide) (fun c_6 => ?_) (fun c_6 => ?_)
  · obtain ⟨n_w, h_w, rfl⟩ := inR_of (by decide) c_6
    have i_w : iN (nI n_w) = n_w := iN_nI (by omega)
    refine a_aloadn_0 (pc := 11) dX11_holds_11 ?_
    refine a_iloadn_1 (pc := 12) dX11_holds_12 ?_
    refine cv_X11_218 (pc := 13) rfl dX11_holds_13 hC.c0 (Nat.le_of_ble_eq_true rfl) ?_
    refine p_hill (by omega) hz hC (fun hlg => ?_) (fun q hq hdd hg => ?_)
    · have hne : ¬ lgR b dd = 0 := fun z => by rw [z] at hlg; exact absurd hlg (by decide)
      refine a_istoren_3 (pc := 16) dX11_holds_16 (by decide) (by first | rfl | trivial) ?_
      refine a_iloadn_3 (pc := 17) dX11_holds_17 ?_
      refine a_if_eq (pc := 18) (tgt := 25) dX11_holds_18 (by decide) (fun c_18 => absurd c_18 hne) (fun c_18 => ?_)
      refine a_iloadn_3 (pc := 21) dX11_holds_21 ?_
      refine a_goto (pc := 22) (tgt := 50) dX11_holds_22 (by decide) ?_
      exact a_iret (pc := 50) dX11_holds_50 rfl (zf hz) (by first | exact k0 (by simp [c_6, i_w]) hlg hC | (rw [hy1]; have k1 := k1 q 0 hq rfl rfl (by omega) hg _ hC; rw [if_pos rfl] at k1; rw [if_neg (by simp), fitN, fitP_el e3]; exact k1) | (rw [hy1]; have k1 := k1 q 1 hq rfl rfl (by omega) hg _ hC; rw [if_neg (by decide)] at k1; rw [if_pos rfl, fitL, fitP_el e3]; exact k1))
    · subst hdd
      obtain ⟨sc, rw, so, sz, el, S0, R0⟩ := hC.toQ (q := q) hq
      have hB := hC.2.1.2.2.2.1.1
      obtain ⟨e1, e2, e3, e4⟩ := shr_el hB R0 (s := 3) (by decide) hg
      subst e2
      refine a_istoren_3 (pc := 16) dX11_holds_16 (by decide) (by first | rfl | trivial) ?_
      refine a_iloadn_3 (pc := 17) dX11_holds_17 ?_
      refine n_if_eq (tgt := 25) dX11_holds_18 (by decide) (by decide) (fun c_18 => ?_) (fun c_18 => by omega)
      refine a_aloadn_0 (pc := 25) dX11_holds_25 ?_
      refine gf_X11_38 (pc := 26) rfl dX11_holds_26 hC.c0 ?_
      refine a_aloadn_0 (pc := 29) dX11_holds_29 ?_
      refine gf_X11_81 (pc := 30) rfl dX11_holds_30 hC.c0 ?_
      refine a_iloadn_1 (pc := 33) dX11_holds_33 ?_
      refine sl_65 (j := q) hC.c65 dX11_holds_34 (by omega) ?_
      refine a_iconst (pc := 35) (v := nI 0) dX11_holds_35 (by decide) ?_
      refine a_iconst (pc := 36) (v := nI 4) dX11_holds_36 (by decide) ?_
      refine a_iloadn_2 (pc := 37) dX11_holds_37 ?_
      refine a_iconst (pc := 38) (v := nI 1) dX11_holds_38 (by decide) ?_
      refine n_icmp_ne (tgt := 46) dX11_holds_39 (by decide) (by omega) (by decide) (fun c_39 => ?_) (fun c_39 => ?_)
      · have wz : n_w = 0 := by omega
        subst wz
        refine a_iconst (pc := 46) (v := nI 0) dX11_holds_46 (by decide) ?_
        refine a_topi (bI false) (by decide) ?_
        obtain ⟨s, u, T0⟩ := hC.toT
        refine cv_X11_225 (pc := 47) rfl dX11_holds_47 T0.th (Nat.le_of_ble_eq_true rfl) ?_
        refine q_fitH (by omega) hz T0 (by omega) S0.2.2 (le := false) (fun y1 h1 x1 hy1 T1 => ?_)
        have hC1 := COb.th T1 hC
        exact a_iret (pc := 50) dX11_holds_50 rfl (zf hz) (by first | exact k0 (by simp [c_6, i_w, c_39]) hlg hC1 | (rw [hy1]; have k1 := k1 q 0 hq rfl rfl (by omega) hg _ hC1; rw [if_pos rfl] at k1; rw [if_neg (by simp), fitN, fitP_el e3]; exact k1) | (rw [hy1]; have k1 := k1 q 1 hq rfl rfl (by omega) hg _ hC1; rw [if_neg (by decide)] at k1; rw [if_pos rfl, fitL, fitP_el e3]; exact k1))
      · have wo : n_w = 1 := by omega
        subst wo
        refine a_iconst (pc := 42) (v := nI 1) dX11_holds_42 (by decide) ?_
        refine a_topi (bI true) (by decide) ?_
        refine a_goto (pc := 43) (tgt := 47) dX11_holds_43 (by decide) ?_
        obtain ⟨s, u, T0⟩ := hC.toT
        refine cv_X11_225 (pc := 47) rfl dX11_holds_47 T0.th (Nat.le_of_ble_eq_true rfl) ?_
        refine q_fitH (by omega) hz T0 (by omega) S0.2.2 (le := true) (fun y1 h1 x1 hy1 T1 => ?_)
        have hC1 := COb.th T1 hC
        exact a_iret (pc := 50) dX11_holds_50 rfl (zf hz) (by first | exact k0 (by simp [c_6, i_w, c_39]) hlg hC1 | (rw [hy1]; have k1 := k1 q 0 hq rfl rfl (by omega) hg _ hC1; rw [if_pos rfl] at k1; rw [if_neg (by simp), fitN, fitP_el e3]; exact k1) | (rw [hy1]; have k1 := k1 q 1 hq rfl rfl (by omega) hg _ hC1; rw [if_neg (by decide)] at k1; rw [if_pos rfl, fitL, fitP_el e3]; exact k1))
  · refine a_iconst (pc := 9) (v := (-1)) dX11_holds_9 (by decide) ?_
    exact a_iret (pc := 10) dX11_holds_10 rfl (zf hz) (kB (by simp [c_6]) hC)
set_option maxRecDepth 100000 in
set_option maxHeartbeats 4000000 in
theorem p_byTurns {G : Cx} {d c : Nat} {h h0 : List va_E} {b : MB} {v : Cv} {F : Lf} {Q : Option Value → List va_E → Prop} (hd : 15 ≤ d) (hz : gz G = false) (hC : COb G h0 h b v F c) {ynt w : Int32} (k : ∀ y h1, y = spByTurns F v ynt w → COb G h0 h1 b v F c → Q (some (.int y)) h1) : AM G yX11_byTurns cX11_byTurns 6 (some .int) d 0 0 [.ref (gB G + 0), .int (ynt), .int (w)] h Q := by
  obtain ⟨d, rfl, he⟩ := dpos hd
  refine AM.of [some (.ref (gB G + 0)), some (.int (ynt)), some (.int (w)), none, none, none] pnX11 (Nat.le_of_ble_eq_true rfl) (by simp [lsub, lvI, Value.category]) ?_
  refine a_iloadn_1 (pc := 0) dX11_byTurns_0 ?_
  refine a_iconst (pc := 1) (v := nI 0) dX11_byTurns_1 (by decide) ?_
  refine a_sipush (pc := 2) (v := nI 599) dX11_byTurns_2 (by decide) ?_
  refine cs_X11_101 (pc := 5) rfl dX11_byTurns_5 (Nat.le_of_ble_eq_true rfl) ?_
  refine x_within (by omega) hz ?_
  refine a_topi (bI (inR 0 (nI 599) ynt)) rfl ?_
  refine b_if_eq (pc := 8) (tgt := 20) dX11_byTurns_8 (by decide) (fun c_8 => ?_) (fun c_8 => ?_)
  · refine a_iconst (pc := 20) (v := (-1)) dX11_byTurns_20 (by decide) ?_
    exact a_iret (pc := 21) dX11_byTurns_21 rfl (zf hz) (k _ _ (by unfold spByTurns; simp [c_8]) hC)
  · obtain ⟨n_ynt, h_ynt, rfl⟩ := inR_of (by decide) c_8
    have i_ynt : iN (nI n_ynt) = n_ynt := iN_nI (by omega)
    refine a_iloadn_2 (pc := 11) dX11_byTurns_11 ?_
    refine a_iconst (pc := 12) (v := nI 0) dX11_byTurns_12 (by decide) ?_
    refine a_iconst (pc := 13) (v := nI 1) dX11_byTurns_13 (by decide) ?_
    refine cs_X11_101 (pc := 14) rfl dX11_byTurns_14 (Nat.le_of_ble_eq_true rfl) ?_
    refine x_within (by omega) hz ?_
    refine a_topi (bI (inR 0 (nI 1) w)) rfl ?_
    refine b_if_ne (pc := 17) (tgt := 22) dX11_byTurns_17 (by decide) (fun c_17 => ?_) (fun c_17 => ?_)
    · obtain ⟨n_w, h_w, rfl⟩ := inR_of (by decide) c_17
      have i_w : iN (nI n_w) = n_w := iN_nI (by omega)
      refine a_iloadn_1 (pc := 22) dX11_byTurns_22 ?_
      refine a_bipush (pc := 23) (v := nI 10) dX11_byTurns_23 (by decide) ?_
      refine n_idiv dX11_byTurns_25 (by omega) (by decide) (by decide) ?_
      refine a_bipush (pc := 26) (v := nI 10) dX11_byTurns_26 (by decide) ?_
      refine n_irem dX11_byTurns_28 (by omega) (by decide) (by decide) ?_
      refine a_istoren_3 (pc := 29) dX11_byTurns_29 (by decide) (by first | rfl | trivial) ?_
      refine a_iloadn_1 (pc := 30) dX11_byTurns_30 ?_
      refine a_bipush (pc := 31) (v := nI 10) dX11_byTurns_31 (by decide) ?_
      refine n_irem dX11_byTurns_33 (by omega) (by decide) (by decide) ?_
      refine a_istore_4 (pc := 34) dX11_byTurns_34 (by decide) (by first | rfl | trivial) ?_
      refine a_iloadn_3 (pc := 36) dX11_byTurns_36 ?_
      refine a_iconst (pc := 37) (v := nI 1) dX11_byTurns_37 (by decide) ?_
      refine a_iconst (pc := 38) (v := nI 3) dX11_byTurns_38 (by decide) ?_
      refine cs_X11_101 (pc := 39) rfl dX11_byTurns_39 (Nat.le_of_ble_eq_true rfl) ?_
      refine x_within (by omega) hz ?_
      refine a_topi (bI (inN 1 3 ((n_ynt / 10) % 10))) (congrArg bI (inR_N (lo := 1) (hi := 3) (by decide) (by decide) (by omega))) ?_
      refine b_if_eq (pc := 42) (tgt := 56) dX11_byTurns_42 (by decide) (fun c_42 => ?_) (fun c_42 => ?_)
      · refine a_iconst (pc := 56) (v := (-1)) dX11_byTurns_56 (by decide) ?_
        exact a_iret (pc := 57) dX11_byTurns_57 rfl (zf hz) (by first | exact k _ _ (bt_bad (by omega) (Or.inl (fun z => inN_f c_42 (by omega)))).symm hC | exact k _ _ (bt_bad (by omega) (Or.inl (fun z => inN_f c_53 (by omega)))).symm hC)
      · refine a_iload_4 (pc := 45) dX11_byTurns_45 ?_
        refine a_iconst (pc := 47) (v := nI 0) dX11_byTurns_47 (by decide) ?_
        refine a_bipush (pc := 48) (v := nI 6) dX11_byTurns_48 (by decide) ?_
        refine cs_X11_101 (pc := 50) rfl dX11_byTurns_50 (Nat.le_of_ble_eq_true rfl) ?_
        refine x_within (by omega) hz ?_
        refine a_topi (bI (inN 0 6 (n_ynt % 10))) (congrArg bI (inR_N (lo := 0) (hi := 6) (by decide) (by decide) (by omega))) ?_
        refine b_if_ne (pc := 53) (tgt := 58) dX11_byTurns_53 (by decide) (fun c_53 => ?_) (fun c_53 => ?_)
        · have i1 := inN_t c_42
          have i2 := inN_t c_53
          have hsp := bt_ok (F := F) (v := v) (q := n_ynt) (by omega) (by omega) (show inR 0 (nI 1) (nI n_w) = true by assumption)
          refine a_aloadn_0 (pc := 58) dX11_byTurns_58 ?_
          refine gf_X11_52 (pc := 59) rfl dX11_byTurns_59 hC.c0 ?_
          refine a_iloadn_1 (pc := 62) dX11_byTurns_62 ?_
          refine a_bipush (pc := 63) (v := nI 100) dX11_byTurns_63 (by decide) ?_
          refine n_idiv dX11_byTurns_65 (by omega) (by decide) (by decide) ?_
          refine a_iloadn_3 (pc := 66) dX11_byTurns_66 ?_
          refine a_iload_4 (pc := 67) dX11_byTurns_67 ?_
          obtain ⟨s, x9, z9, B0⟩ := hC.toB
          refine cv_X11_229 (pc := 69) rfl dX11_byTurns_69 B0.ob (Nat.le_of_ble_eq_true rfl) ?_
          refine t_play (by omega) hz B0 (by omega) (by omega) (by omega) (fun h1 x1 z1 B1 => ?_)
          have hC1 := COb.tu B1 hC
          rw [Nat.min_eq_left (show n_ynt / 10 % 10 ≤ 3 by omega)] at B1 ⊢
          refine a_istore_5 (pc := 72) dX11_byTurns_72 (by decide) (by first | rfl | trivial) ?_
          refine a_iloadn_2 (pc := 74) dX11_byTurns_74 ?_
          refine n_if_ne (tgt := 83) dX11_byTurns_75 (by decide) (by omega) (fun c_75 => ?_) (fun c_75 => ?_)
          · have wz : ¬ n_w = 0 := by omega
            refine a_aloadn_0 (pc := 83) dX11_byTurns_83 ?_
            refine gf_X11_52 (pc := 84) rfl dX11_byTurns_84 hC1.c0 ?_
            refine gf_X11_233 (pc := 87) rfl dX11_byTurns_87 B1.ob ?_
            exact a_iret (pc := 90) dX11_byTurns_90 rfl (zf hz) (by first | exact k _ _ (by rw [hsp, iN_nI (by omega), if_pos wz]) hC1 | exact k _ _ (by rw [hsp, iN_nI (by omega), if_neg wz]; rfl) hC1)
          · have wz : n_w = 0 := c_75
            refine a_iload_5 (pc := 78) dX11_byTurns_78 ?_
            refine a_goto (pc := 80) (tgt := 90) dX11_byTurns_80 (by decide) ?_
            exact a_iret (pc := 90) dX11_byTurns_90 rfl (zf hz) (by first | exact k _ _ (by rw [hsp, iN_nI (by omega), if_pos wz]) hC1 | exact k _ _ (by rw [hsp, iN_nI (by omega), if_neg wz]; rfl) hC1)
        · refine a_iconst (pc := 56) (v := (-1)) dX11_byTurns_56 (by decide) ?_
          exact a_iret (pc := 57) dX11_byTurns_57 rfl (zf hz) (by first | exact k _ _ (bt_bad (by omega) (Or.inl (fun z => inN_f c_42 (by omega)))).symm hC | exact k _ _ (bt_bad (by omega) (Or.inl (fun z => inN_f c_53 (by omega)))).symm hC)
    · refine a_iconst (pc := 20) (v := (-1)) dX11_byTurns_20 (by decide) ?_
      exact a_iret (pc := 21) dX11_byTurns_21 rfl (zf hz) (k _ _ (by unfold spByTurns; simp [c_8, i_ynt, c_17]) hC)
theorem inR_m1 {r : Int32} : inR (-1) (nI 35) r = true ↔ r = -1 ∨ inR 0 (nI 35) r = true := by
  unfold inR
  rw [Bool.and_eq_true_iff, Bool.and_eq_true_iff, decide_eq_true_iff, decide_eq_true_iff, decide_eq_true_iff, Int32.le_iff_toInt_le, Int32.le_iff_toInt_le, Int32.le_iff_toInt_le, nI_toInt (by decide)]
  have h1 : (-1 : Int32).toInt = -1 := by decide
  have h0 : (0 : Int32).toInt = 0 := by decide
  rw [h1, h0]
  constructor
  · rintro ⟨a, b⟩
    by_cases e : r.toInt = -1
    · exact Or.inl (Int32.toInt_inj.mp (e.trans h1.symm))
    · exact Or.inr ⟨by omega, b⟩
  · rintro (rfl | ⟨a, b⟩)
    · rw [h1]; exact ⟨Int.le_refl _, by decide⟩
    · exact ⟨by omega, b⟩
set_option maxRecDepth 100000 in
set_option maxHeartbeats 4000000 in
theorem p_drawn {G : Cx} {d c : Nat} {h h0 : List va_E} {b : MB} {v : Cv} {F : Lf} {Q : Option Value → List va_E → Prop} (hd : 14 ≤ d) (hz : gz G = false) (hC : COb G h0 h b v F c) {sd nmo r : Int32} (k : ∀ y h1, y = spDrawn F v sd nmo r → COb G h0 h1 b v F c → Q (some (.int y)) h1) : AM G yX11_drawn cX11_drawn 7 (some .int) d 0 0 [.ref (gB G + 0), .int (sd), .int (nmo), .int (r)] h Q := by
  obtain ⟨d, rfl, he⟩ := dpos hd
  refine AM.of [some (.ref (gB G + 0)), some (.int (sd)), some (.int (nmo)), some (.int (r)), none, none, none] pnX11 (Nat.le_of_ble_eq_true rfl) (by simp [lsub, lvI, Value.category]) ?_
  refine a_iloadn_2 (pc := 0) dX11_drawn_0 ?_
  refine a_iconst (pc := 1) (v := nI 0) dX11_drawn_1 (by decide) ?_
  refine a_ldc (pc := 2) dX11_drawn_2 w_816 ?_
  refine a_topi (nI 309999) (by decide) ?_
  refine cs_X11_101 (pc := 4) rfl dX11_drawn_4 (Nat.le_of_ble_eq_true rfl) ?_
  refine x_within (by omega) hz ?_
  refine a_topi (bI (inR 0 (nI 309999) nmo)) rfl ?_
  refine b_if_eq (pc := 7) (tgt := 20) dX11_drawn_7 (by decide) (fun c_7 => ?_) (fun c_7 => ?_)
  · refine a_iconst (pc := 20) (v := (-1)) dX11_drawn_20 (by decide) ?_
    exact a_iret (pc := 21) dX11_drawn_21 rfl (zf hz) (k _ _ (by first | (unfold spDrawn; simp [c_7]; done) | exact (dr_room (fun z => by rw [inR_m1.mpr (Or.inl z)] at c_17; cases c_17) (Bool.eq_false_iff.mpr (fun z => by rw [inR_m1.mpr (Or.inr z)] at c_17; cases c_17))).symm) hC)
  · obtain ⟨n_nmo, h_nmo, rfl⟩ := inR_of (by decide) c_7
    have i_nmo : iN (nI n_nmo) = n_nmo := iN_nI (by omega)
    refine a_iloadn_3 (pc := 10) dX11_drawn_10 ?_
    refine a_iconst (pc := 11) (v := (-1)) dX11_drawn_11 (by decide) ?_
    refine a_bipush (pc := 12) (v := nI 35) dX11_drawn_12 (by decide) ?_
    refine cs_X11_101 (pc := 14) rfl dX11_drawn_14 (Nat.le_of_ble_eq_true rfl) ?_
    refine x_within (by omega) hz ?_
    refine a_topi (bI (inR (-1) (nI 35) r)) rfl ?_
    refine b_if_ne (pc := 17) (tgt := 22) dX11_drawn_17 (by decide) (fun c_17 => ?_) (fun c_17 => ?_)
    · refine a_iloadn_2 (pc := 22) dX11_drawn_22 ?_
      refine a_sipush (pc := 23) (v := nI 10000) dX11_drawn_23 (by decide) ?_
      refine n_idiv dX11_drawn_26 (by omega) (by decide) (by decide) ?_
      refine a_istore_4 (pc := 27) dX11_drawn_27 (by decide) (by first | rfl | trivial) ?_
      refine a_iloadn_2 (pc := 29) dX11_drawn_29 ?_
      refine a_bipush (pc := 30) (v := nI 100) dX11_drawn_30 (by decide) ?_
      refine n_idiv dX11_drawn_32 (by omega) (by decide) (by decide) ?_
      refine a_bipush (pc := 33) (v := nI 100) dX11_drawn_33 (by decide) ?_
      refine n_irem dX11_drawn_35 (by omega) (by decide) (by decide) ?_
      refine a_istore_5 (pc := 36) dX11_drawn_36 (by decide) (by first | rfl | trivial) ?_
      refine a_iloadn_2 (pc := 38) dX11_drawn_38 ?_
      refine a_bipush (pc := 39) (v := nI 100) dX11_drawn_39 (by decide) ?_
      refine n_irem dX11_drawn_41 (by omega) (by decide) (by decide) ?_
      refine a_istore_6 (pc := 42) dX11_drawn_42 (by decide) (by first | rfl | trivial) ?_
      refine a_iload_4 (pc := 44) dX11_drawn_44 ?_
      refine a_iconst (pc := 46) (v := nI 1) dX11_drawn_46 (by decide) ?_
      refine a_bipush (pc := 47) (v := nI 30) dX11_drawn_47 (by decide) ?_
      refine cs_X11_101 (pc := 49) rfl dX11_drawn_49 (Nat.le_of_ble_eq_true rfl) ?_
      refine x_within (by omega) hz ?_
      refine a_topi (bI (inN 1 30 (n_nmo / 10000))) (congrArg bI (inR_N (lo := 1) (hi := 30) (by decide) (by decide) (by omega))) ?_
      refine b_if_eq (pc := 52) (tgt := 77) dX11_drawn_52 (by decide) (fun c_52 => ?_) (fun c_52 => ?_)
      · refine a_iconst (pc := 77) (v := (-1)) dX11_drawn_77 (by decide) ?_
        exact a_iret (pc := 78) dX11_drawn_78 rfl (zf hz) (by first | exact k _ _ (dr_bad (by omega) (fun z => inN_f c_52 (by have := okDr_iff.mp z; omega))).symm hC | exact k _ _ (dr_bad (by omega) (fun z => inN_f c_63 (by have := okDr_iff.mp z; omega))).symm hC | exact k _ _ (dr_bad (by omega) (fun z => inN_f c_74 (by have := okDr_iff.mp z; omega))).symm hC)
      · refine a_iload_5 (pc := 55) dX11_drawn_55 ?_
        refine a_iconst (pc := 57) (v := nI 1) dX11_drawn_57 (by decide) ?_
        refine a_bipush (pc := 58) (v := nI 24) dX11_drawn_58 (by decide) ?_
        refine cs_X11_101 (pc := 60) rfl dX11_drawn_60 (Nat.le_of_ble_eq_true rfl) ?_
        refine x_within (by omega) hz ?_
        refine a_topi (bI (inN 1 24 ((n_nmo / 100) % 100))) (congrArg bI (inR_N (lo := 1) (hi := 24) (by decide) (by decide) (by omega))) ?_
        refine b_if_eq (pc := 63) (tgt := 77) dX11_drawn_63 (by decide) (fun c_63 => ?_) (fun c_63 => ?_)
        · refine a_iconst (pc := 77) (v := (-1)) dX11_drawn_77 (by decide) ?_
          exact a_iret (pc := 78) dX11_drawn_78 rfl (zf hz) (by first | exact k _ _ (dr_bad (by omega) (fun z => inN_f c_52 (by have := okDr_iff.mp z; omega))).symm hC | exact k _ _ (dr_bad (by omega) (fun z => inN_f c_63 (by have := okDr_iff.mp z; omega))).symm hC | exact k _ _ (dr_bad (by omega) (fun z => inN_f c_74 (by have := okDr_iff.mp z; omega))).symm hC)
        · refine a_iload_6 (pc := 66) dX11_drawn_66 ?_
          refine a_iconst (pc := 68) (v := nI 0) dX11_drawn_68 (by decide) ?_
          refine a_bipush (pc := 69) (v := nI 12) dX11_drawn_69 (by decide) ?_
          refine cs_X11_101 (pc := 71) rfl dX11_drawn_71 (Nat.le_of_ble_eq_true rfl) ?_
          refine x_within (by omega) hz ?_
          refine a_topi (bI (inN 0 12 (n_nmo % 100))) (congrArg bI (inR_N (lo := 0) (hi := 12) (by decide) (by decide) (by omega))) ?_
          refine b_if_ne (pc := 74) (tgt := 79) dX11_drawn_74 (by decide) (fun c_74 => ?_) (fun c_74 => ?_)
          · have i1 := inN_t c_52
            have i2 := inN_t c_63
            have i3 := inN_t c_74
            have hsp := dr_ok (F := F) (v := v) (sd := sd) (r := r) (q := n_nmo) (by omega) (okDr_iff.mpr ⟨by omega, by omega, by omega⟩)
            refine a_aloadn_0 (pc := 79) dX11_drawn_79 ?_
            refine gf_X11_38 (pc := 80) rfl dX11_drawn_80 hC.c0 ?_
            refine a_iloadn_1 (pc := 83) dX11_drawn_83 ?_
            refine a_iload_4 (pc := 84) dX11_drawn_84 ?_
            refine a_iload_5 (pc := 86) dX11_drawn_86 ?_
            refine a_iload_6 (pc := 88) dX11_drawn_88 ?_
            refine a_iloadn_3 (pc := 90) dX11_drawn_90 ?_
            obtain ⟨s, u, T0⟩ := hC.toT
            refine cv_X11_237 (pc := 91) rfl dX11_drawn_91 T0.th (Nat.le_of_ble_eq_true rfl) ?_
            rcases inR_m1.mp c_17 with hr | hr
            · subst hr
              refine q_mothsA (by omega) hz T0 (by omega) (fun y1 h1 x1 hy1 T1 => ?_)
              have hC1 := COb.th T1 hC
              exact a_iret (pc := 94) dX11_drawn_94 rfl (zf hz) (by first | exact k _ _ (by rw [hsp, if_pos rfl]; exact hy1) hC1 | exact k _ _ (by rw [hsp, if_neg (nI_nm1 (by omega)), if_pos hr, i_r]; exact hy1) hC1)
            · obtain ⟨n_r, h_r, rfl⟩ := inR_of (by decide) hr
              have i_r : iN (nI n_r) = n_r := iN_nI (by omega)
              refine q_mothsR (by omega) hz T0 (by omega) (by omega) (fun y1 h1 x1 hy1 T1 => ?_)
              have hC1 := COb.th T1 hC
              exact a_iret (pc := 94) dX11_drawn_94 rfl (zf hz) (by first | exact k _ _ (by rw [hsp, if_pos rfl]; exact hy1) hC1 | exact k _ _ (by rw [hsp, if_neg (nI_nm1 (by omega)), if_pos hr, i_r]; exact hy1) hC1)
          · refine a_iconst (pc := 77) (v := (-1)) dX11_drawn_77 (by decide) ?_
            exact a_iret (pc := 78) dX11_drawn_78 rfl (zf hz) (by first | exact k _ _ (dr_bad (by omega) (fun z => inN_f c_52 (by have := okDr_iff.mp z; omega))).symm hC | exact k _ _ (dr_bad (by omega) (fun z => inN_f c_63 (by have := okDr_iff.mp z; omega))).symm hC | exact k _ _ (dr_bad (by omega) (fun z => inN_f c_74 (by have := okDr_iff.mp z; omega))).symm hC)
    · refine a_iconst (pc := 20) (v := (-1)) dX11_drawn_20 (by decide) ?_
      exact a_iret (pc := 21) dX11_drawn_21 rfl (zf hz) (k _ _ (by first | (unfold spDrawn; simp [c_7, i_nmo, c_17]; done) | exact (dr_room (fun z => by rw [inR_m1.mpr (Or.inl z)] at c_17; cases c_17) (Bool.eq_false_iff.mpr (fun z => by rw [inR_m1.mpr (Or.inr z)] at c_17; cases c_17))).symm) hC)
