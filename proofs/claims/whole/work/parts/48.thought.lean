/-! what was seen from the hill; moths -/
def unl (F : Lf) (x : Cv) (el : Nat → Int64) (sz : Nat) : Int32 := fsrch (fun k => decide (¬ bL (cK (hrs F k x)) = el k)) (min sz 49) 0
def cntf (P : Nat → Bool) : Nat → Nat → Nat
  | 0, _ => 0
  | m + 1, i => (P i).toNat + cntf P m (i + 1)
theorem cnt_st {P : Nat → Bool} {N i : Nat} (h : i < N) : cntf P (N - i) i = (P i).toNat + cntf P (N - (i + 1)) (i + 1) := by
  rw [show N - i = (N - (i + 1)) + 1 by omega, cntf]
theorem cnt_end {P : Nat → Bool} {N i : Nat} (h : N ≤ i) : cntf P (N - i) i = 0 := by
  rw [show N - i = 0 by omega, cntf]
/-- by how many of lo .. 9 all is so; the least -/
def fitP (F : Lf) (v : Cv) (el : Nat → Int64) (sz r w : Nat) (c : Nat) : Bool := decide (unl F (cTell v r w c) el sz = -2)
def fitN (F : Lf) (v : Cv) (el : Nat → Int64) (sz r w lo : Nat) : Nat := cntf (fitP F v el sz r w) (10 - lo) lo
def fitL (F : Lf) (v : Cv) (el : Nat → Int64) (sz r w lo : Nat) : Int32 := fsrch (fitP F v el sz r w) (10 - lo) lo
abbrev zn (z : Int32) : Int32 := z * 1103515245 + nI 12345
def mth (z : Int32) : Nat := z.toBitVec.toNat / 65536 % 12
def rmz (z : Int32) : Nat := z.toBitVec.toNat / 256 % 36
def nightC (F : Lf) (mo : Nat) : Nat → Int32 → Cv → Int32 × Cv
  | 0, z, u => (z, u)
  | m + 1, z, u => nightC F mo m (zn z) (chour F (if mth (zn z) < mo then csW u (rmz (zn z)) 0 else u))
def sumN (F : Lf) (v : Cv) (mo m : Nat) (val : Cv → Nat) : Nat → Int32 → Nat
  | 0, _ => 0
  | n + 1, z => val (nightC F mo m z v).2 + sumN F v mo m val n (nightC F mo m z v).1
theorem nI_toNat (z : Int32) : nI z.toBitVec.toNat = z := by
  apply Int32.toBitVec_inj.mp
  show BitVec.ofNat 32 z.toBitVec.toNat = z.toBitVec
  rw [BitVec.ofNat_toNat, BitVec.setWidth_eq]
theorem ush16 (z : Int32) : (z.toUInt32 >>> ((nI 16).toUInt32 &&& Int32.toUInt32 31)).toInt32 = nI (z.toBitVec.toNat / 65536) := by
  conv => lhs; rw [← nI_toNat z]
  exact pk_ushrN z.toBitVec.isLt (nI 16) 16 (by decide)
theorem ush8 (z : Int32) : (z.toUInt32 >>> ((nI 8).toUInt32 &&& Int32.toUInt32 31)).toInt32 = nI (z.toBitVec.toNat / 256) := by
  conv => lhs; rw [← nI_toNat z]
  exact pk_ushrN z.toBitVec.isLt (nI 8) 8 (by decide)
theorem mth_lt (z : Int32) : mth z < 12 := Nat.mod_lt _ (by decide)
theorem rmz_lt (z : Int32) : rmz z < 36 := Nat.mod_lt _ (by decide)
theorem unl_SC {F : Lf} {u x : Cv} (h : SC u x) (el : Nat → Int64) (sz : Nat) : unl F u el sz = unl F x el sz := by
  unfold unl
  congr 1
  funext k
  rw [(hrs_SC (F := F) h k).2.2.1]
set_option maxRecDepth 100000 in
set_option maxHeartbeats 4000000 in
theorem q_unlike {G : Cx} {d : Nat} {h h0 : List va_E} {v x : Cv} {F : Lf} {s : Nat × Nat × Int32} {Q : Option Value → List va_E → Prop} (hd : 7 ≤ d) (hz : gz G = false) (hm : TQ G h0 h v x F s) {q : Nat} {sc : Int32} {rw : Bool} {so sz : Nat} {el : Nat → Int64} (hq : 65 ≤ q) (hsh : shAt G h0 q sc rw so sz el) (k : ∀ y h1 x1, y = unl F x el sz → TQ G h0 h1 v x1 F s → Q (some (.int y)) h1) : AM G yX7_unlike cX7_unlike 4 (some .int) d 0 0 [.ref (gB G + 25), .ref (gB G + q)] h Q := by
  obtain ⟨d, rfl, he⟩ := dpos hd
  obtain ⟨P, hP⟩ : ∃ P : Nat → Bool, P = fun k => decide (¬ bL (cK (hrs F k x)) = el k) := ⟨_, rfl⟩
  obtain ⟨S, hSS⟩ : ∃ S, S = fsrch P (min sz 49) 0 := ⟨_, rfl⟩
  have k : ∀ y h1 x1, y = S → TQ G h0 h1 v x1 F s → Q (some (.int y)) h1 := fun y h1 x1 e => k y h1 x1 (by rw [e, hSS, hP]; rfl)
  have hPe : ∀ i, P i = decide (¬ bL (cK (hrs F i x)) = el i) := fun i => by rw [hP]
  have lp : ∀ (n : Nat) (i : Nat) (h1 : List va_E), min sz 49 - i < n → (i ≤ min sz 49) → (fsrch P (min sz 49 - i) i = S) → (TQ G h0 h1 v (hrs F (i - 1) x) F s) → AW G yX7_unlike cX7_unlike 4 (some .int) (rmx (d + 1) 0 0) (ZQ G 0 0 (h.length + 0) Q) 0 0 12 [some (.ref (gB G + 25)), some (.ref (gB G + q)), some (.int (nI (min sz 49))), some (.int (nI (i)))] [] h1 := by
    intro n
    induction n with
    | zero => intro i h1 hn; exact absurd hn (Nat.not_lt_zero _)
    | succ n ih =>
      intro i h1 hn hi hS hm1
      refine a_iloadn_3 (pc := 12) dX7_unlike_12 ?_
      refine a_iloadn_2 (pc := 13) dX7_unlike_13 ?_
      refine n_icmp_ge (tgt := 56) dX7_unlike_14 (by decide) (by omega) (by omega) (fun c_14 => ?_) (fun c_14 => ?_)
      · refine a_bipush (pc := 56) (v := (-2)) dX7_unlike_56 (by decide) ?_
        exact a_iret (pc := 58) dX7_unlike_58 rfl (zf hz) (k _ _ _ (by rw [← hS]; exact (fs_end (by omega)).symm) hm1)
      · refine a_iloadn_3 (pc := 17) dX7_unlike_17 ?_
        refine n_if_le (tgt := 32) dX7_unlike_18 (by decide) (by omega) (fun c_18 => ?_) (fun c_18 => ?_)
        · rw [show i - 1 = i by omega] at hm1
          refine a_aloadn_0 (pc := 32) dX7_unlike_32 ?_
          refine gf_X7_12 (pc := 33) rfl dX7_unlike_33 hm1.th ?_
          refine tq_41 hm1 rfl dX7_unlike_36 ?_
          refine a_aloadn_1 (pc := 39) dX7_unlike_39 ?_
          refine a_iloadn_3 (pc := 40) dX7_unlike_40 ?_
          refine cv_X7_90 (pc := 41) rfl dX7_unlike_41 (shAt_of hsh (hm1.1.2.1 q (by omega) (by omega) (by omega) (by omega)) (hm1.1.2.1 (q + 1) (by omega) (by omega) (by omega) (by omega))).1 (Nat.le_of_ble_eq_true rfl) ?_
          refine s_at (by omega) hz (shAt_of hsh (hm1.1.2.1 q (by omega) (by omega) (by omega) (by omega)) (hm1.1.2.1 (q + 1) (by omega) (by omega) (by omega) (by omega))) (by omega) ?_
          rw [if_pos (by omega)]
          refine a_lcmp (pc := 44) dX7_unlike_44 ?_
          refine a_if_eq (pc := 45) (tgt := 50) dX7_unlike_45 (by decide) (fun c_45 => ?_) (fun c_45 => ?_)
          · rw [lg_cmp0] at c_45
            refine a_iinc_3 (pc := 50) (v := nI (i + 1)) dX7_unlike_50 (nI_add _ _) (by decide) (by first | rfl | trivial) ?_
            refine a_goto (pc := 53) (tgt := 12) dX7_unlike_53 (by decide) ?_
            exact ih (i + 1) _ (by omega) (by omega) (by rw [← hS]; exact (fs_miss (by omega) ((hPe i).trans (decide_eq_false (fun z => z c_45)))).symm) (by rw [Nat.add_sub_cancel]; exact hm1)
          · rw [lg_cmp0] at c_45
            refine a_iloadn_3 (pc := 48) dX7_unlike_48 ?_
            exact a_iret (pc := 49) dX7_unlike_49 rfl (zf hz) (k _ _ _ (by rw [← hS]; exact (fs_hit (by omega) ((hPe i).trans (decide_eq_true c_45))).symm) hm1)
        · refine a_aloadn_0 (pc := 21) dX7_unlike_21 ?_
          refine gf_X7_12 (pc := 22) rfl dX7_unlike_22 hm1.th ?_
          refine a_aloadn_0 (pc := 25) dX7_unlike_25 ?_
          refine gf_X7_21 (pc := 26) rfl dX7_unlike_26 hm1.th ?_
          refine cv_X7_29 (pc := 29) rfl dX7_unlike_29 hm1.c26.choose_spec (Nat.le_of_ble_eq_true rfl) ?_
          refine q_hour (by omega) hz hm1 (fun h3 hm3 => ?_)
          rw [show chour F (hrs F (i - 1) x) = hrs F i x from by obtain ⟨j, rfl⟩ : ∃ j, i = j + 1 := ⟨i - 1, by omega⟩; rfl] at hm3
          refine a_aloadn_0 (pc := 32) dX7_unlike_32 ?_
          refine gf_X7_12 (pc := 33) rfl dX7_unlike_33 hm3.th ?_
          refine tq_41 hm3 rfl dX7_unlike_36 ?_
          refine a_aloadn_1 (pc := 39) dX7_unlike_39 ?_
          refine a_iloadn_3 (pc := 40) dX7_unlike_40 ?_
          refine cv_X7_90 (pc := 41) rfl dX7_unlike_41 (shAt_of hsh (hm3.1.2.1 q (by omega) (by omega) (by omega) (by omega)) (hm3.1.2.1 (q + 1) (by omega) (by omega) (by omega) (by omega))).1 (Nat.le_of_ble_eq_true rfl) ?_
          refine s_at (by omega) hz (shAt_of hsh (hm3.1.2.1 q (by omega) (by omega) (by omega) (by omega)) (hm3.1.2.1 (q + 1) (by omega) (by omega) (by omega) (by omega))) (by omega) ?_
          rw [if_pos (by omega)]
          refine a_lcmp (pc := 44) dX7_unlike_44 ?_
          refine a_if_eq (pc := 45) (tgt := 50) dX7_unlike_45 (by decide) (fun c_45 => ?_) (fun c_45 => ?_)
          · rw [lg_cmp0] at c_45
            refine a_iinc_3 (pc := 50) (v := nI (i + 1)) dX7_unlike_50 (nI_add _ _) (by decide) (by first | rfl | trivial) ?_
            refine a_goto (pc := 53) (tgt := 12) dX7_unlike_53 (by decide) ?_
            exact ih (i + 1) _ (by omega) (by omega) (by rw [← hS]; exact (fs_miss (by omega) ((hPe i).trans (decide_eq_false (fun z => z c_45)))).symm) (by rw [Nat.add_sub_cancel]; exact hm3)
          · rw [lg_cmp0] at c_45
            refine a_iloadn_3 (pc := 48) dX7_unlike_48 ?_
            exact a_iret (pc := 49) dX7_unlike_49 rfl (zf hz) (k _ _ _ (by rw [← hS]; exact (fs_hit (by omega) ((hPe i).trans (decide_eq_true c_45))).symm) hm3)
  refine AM.of [some (.ref (gB G + 25)), some (.ref (gB G + q)), none, none] pnX7 (Nat.le_of_ble_eq_true rfl) (by simp [lsub, lvI, Value.category]) ?_
  refine a_aloadn_1 (pc := 0) dX7_unlike_0 ?_
  refine gf_X7_80 (pc := 1) rfl dX7_unlike_1 (shAt_of hsh (hm.1.2.1 q (by omega) (by omega) (by omega) (by omega)) (hm.1.2.1 (q + 1) (by omega) (by omega) (by omega) (by omega))).1 ?_
  refine a_bipush (pc := 4) (v := nI 49) dX7_unlike_4 (by decide) ?_
  have sz9 := hsh.2.2
  refine a_mminR (pc := 6) dX7_unlike_6 w_773 (Nat.le_of_ble_eq_true rfl) ?_
  refine a_topi (nI (min sz 49)) (mmin_nI (by omega) (by decide)) ?_
  refine a_istoren_2 (pc := 9) dX7_unlike_9 (by decide) (by first | rfl | trivial) ?_
  refine a_iconst (pc := 10) (v := nI 0) dX7_unlike_10 (by decide) ?_
  refine a_istoren_3 (pc := 11) dX7_unlike_11 (by decide) (by first | rfl | trivial) ?_
  exact lp (min sz 49 + 1) 0 _ (by omega) (by omega) hSS.symm hm
set_option maxRecDepth 100000 in
set_option maxHeartbeats 4000000 in
theorem q_firstUnlike {G : Cx} {d : Nat} {h h0 : List va_E} {v x : Cv} {F : Lf} {s : Nat × Nat × Int32} {Q : Option Value → List va_E → Prop} (hd : 8 ≤ d) (hz : gz G = false) (hm : TQ G h0 h v x F s) {q : Nat} {sc : Int32} {rw : Bool} {so sz : Nat} {el : Nat → Int64} (hq : 65 ≤ q) (hsh : shAt G h0 q sc rw so sz el) (k : ∀ y h1 x1, y = unl F v el sz → TQ G h0 h1 v x1 F s → Q (some (.int y)) h1) : AM G yX7_firstUnlike cX7_firstUnlike 2 (some .int) d 0 0 [.ref (gB G + 25), .ref (gB G + q)] h Q := by
  obtain ⟨d, rfl, he⟩ := dpos hd
  refine AM.of [some (.ref (gB G + 25)), some (.ref (gB G + q))] pnX7 (Nat.le_of_ble_eq_true rfl) (by simp [lsub, lvI, Value.category]) ?_
  refine a_aloadn_0 (pc := 0) dX7_firstUnlike_0 ?_
  refine gf_X7_12 (pc := 1) rfl dX7_firstUnlike_1 hm.th ?_
  refine a_aloadn_0 (pc := 4) dX7_firstUnlike_4 ?_
  refine gf_X7_18 (pc := 5) rfl dX7_firstUnlike_5 hm.th ?_
  refine cv_X7_25 (pc := 8) rfl dX7_firstUnlike_8 hm.c26.choose_spec (Nat.le_of_ble_eq_true rfl) ?_
  refine q_copy (by omega) hz hm (fun h1 hm1 => ?_)
  refine a_aloadn_0 (pc := 11) dX7_firstUnlike_11 ?_
  refine a_aloadn_1 (pc := 12) dX7_firstUnlike_12 ?_
  refine cv_X7_76 (pc := 13) rfl dX7_firstUnlike_13 hm1.th (Nat.le_of_ble_eq_true rfl) ?_
  refine q_unlike (by omega) hz hm1 hq hsh (fun y2 h2 x2 hy2 hm2 => ?_)
  exact a_iret (pc := 16) dX7_firstUnlike_16 rfl (zf hz) (k _ _ _ hy2 hm2)
set_option maxRecDepth 100000 in
set_option maxHeartbeats 4000000 in
theorem q_fitD {G : Cx} {d : Nat} {h h0 : List va_E} {v x : Cv} {F : Lf} {s : Nat × Nat × Int32} {Q : Option Value → List va_E → Prop} (hd : 9 ≤ d) (hz : gz G = false) (hm : TQ G h0 h v x F s) {q : Nat} {sc : Int32} {rw : Bool} {so sz : Nat} {el : Nat → Int64} (hq : 65 ≤ q) (hsh : shAt G h0 q sc rw so sz el) {r : Nat} (hr : r < 36) {le : Bool} (k : ∀ y h1 x1, y = (if le = true then fitL F v el sz r 1 0 else nI (fitN F v el sz r 1 0)) → TQ G h0 h1 v x1 F s → Q (some (.int y)) h1) : AM G yX7_fitting cX7_fitting 7 (some .int) d 0 0 [.ref (gB G + 25), .ref (gB G + q), .int (nI (r)), .int (nI (1)), .int (bI (le))] h Q := by
  obtain ⟨d, rfl, he⟩ := dpos hd
  have lp : ∀ (n i fit : Nat) (h1 : List va_E) (x : Cv), 10 - i < n → i ≤ 10 → 0 ≤ i → fit + cntf (fitP F v el sz r 1) (10 - i) i = fitN F v el sz r 1 0 → (le = true → fsrch (fitP F v el sz r 1) (10 - i) i = fitL F v el sz r 1 0) → TQ G h0 h1 v x F s → AW G yX7_fitting cX7_fitting 7 (some .int) (rmx (d + 1) 0 0) (ZQ G 0 0 (h.length + 0) Q) 0 0 10 [some (.ref (gB G + 25)), some (.ref (gB G + q)), some (.int (nI (r))), some (.int (nI (1))), some (.int (bI (le))), some (.int (nI (fit))), some (.int (nI (i)))] [] h1 := by
    intro n
    induction n with
    | zero => intro i fit h1 x hn; exact absurd hn (Nat.not_lt_zero _)
    | succ n ih =>
      intro i fit h1 x hn hi hlo hN hL hm1
      refine a_iload_6 (pc := 10) dX7_fitting_10 ?_
      refine a_getsN (pc := 12) (i := 1) (host := RX11) (by decide) dX7_fitting_12 rfl (by decide +kernel) ?_
      refine a_iloadn_3 (pc := 15) dX7_fitting_15 ?_
      refine a_sil (pc := 16) 1 (t := 1) (by decide) dX7_fitting_16 rfl (by decide) ?_
      refine a_topi (nI 9) (by decide) ?_
      refine n_icmp_gt (tgt := 69) dX7_fitting_17 (by decide) (by omega) (by decide) (fun c_17 => ?_) (fun c_17 => ?_)
      · refine a_iload_4 (pc := 69) dX7_fitting_69 ?_
        refine b_if_eq (pc := 71) (tgt := 79) dX7_fitting_71 (by decide) (fun c_71 => ?_) (fun c_71 => ?_)
        · refine a_iload_5 (pc := 79) dX7_fitting_79 ?_
          exact a_iret (pc := 81) dX7_fitting_81 rfl (zf hz) (k _ _ _ (by rw [c_71]; simp only [Bool.false_eq_true, if_false]; rw [← hN, cnt_end (by omega), Nat.add_zero]) hm1)
        · refine a_bipush (pc := 74) (v := (-2)) dX7_fitting_74 (by decide) ?_
          refine a_goto (pc := 76) (tgt := 81) dX7_fitting_76 (by decide) ?_
          exact a_iret (pc := 81) dX7_fitting_81 rfl (zf hz) (k _ _ _ (by rw [c_71, if_pos rfl, ← hL c_71, fs_end (by omega)]) hm1)
      · refine a_aloadn_0 (pc := 20) dX7_fitting_20 ?_
        refine gf_X7_12 (pc := 21) rfl dX7_fitting_21 hm1.th ?_
        refine a_aloadn_0 (pc := 24) dX7_fitting_24 ?_
        refine gf_X7_18 (pc := 25) rfl dX7_fitting_25 hm1.th ?_
        refine cv_X7_25 (pc := 28) rfl dX7_fitting_28 hm1.c26.choose_spec (Nat.le_of_ble_eq_true rfl) ?_
        refine q_copy (by omega) hz hm1 (fun h2 hm2 => ?_)
        refine a_aloadn_0 (pc := 31) dX7_fitting_31 ?_
        refine gf_X7_12 (pc := 32) rfl dX7_fitting_32 hm2.th ?_
        refine a_iloadn_2 (pc := 35) dX7_fitting_35 ?_
        refine a_iloadn_3 (pc := 36) dX7_fitting_36 ?_
        refine a_iload_6 (pc := 37) dX7_fitting_37 ?_
        refine cv_X7_101 (pc := 39) rfl dX7_fitting_39 hm2.c26.choose_spec (Nat.le_of_ble_eq_true rfl) ?_
        refine q_tell (by omega) hz hm2 (by decide) (fun _ => by omega) (by have e : sI 0 = _ := rfl; exact ⟨by show (0 : Int32) ≤ nI i; exact nI_pos' (by omega), by show nI i ≤ nI 9; exact nI_le (by omega) (by decide), by omega⟩) (fun h3 hm3 => ?_)
        refine a_aloadn_0 (pc := 42) dX7_fitting_42 ?_
        refine a_aloadn_1 (pc := 43) dX7_fitting_43 ?_
        refine cv_X7_76 (pc := 44) rfl dX7_fitting_44 hm3.th (Nat.le_of_ble_eq_true rfl) ?_
        refine q_unlike (by omega) hz hm3 hq hsh (fun y4 h4 x4 hy4 hm4 => ?_)
        refine a_bipush (pc := 47) (v := (-2)) dX7_fitting_47 (by decide) ?_
        refine a_icmp_ne (pc := 49) (tgt := 63) dX7_fitting_49 (by decide) (fun c_49 => ?_) (fun c_49 => ?_)
        · have hp : fitP F v el sz r 1 i = false := by unfold fitP; rw [← hy4]; exact decide_eq_false c_49
          refine a_iinc_6 (pc := 63) (v := nI (i + 1)) dX7_fitting_63 (nI_add _ _) (by decide) (by first | rfl | trivial) ?_
          refine a_goto (pc := 66) (tgt := 10) dX7_fitting_66 (by decide) ?_
          exact ih (i + 1) fit _ _ (by omega) (by omega) (by omega) (by rw [← hN, cnt_st (show i < 10 by omega), hp]; simp) (fun z => by rw [← hL z, fs_miss (by omega) hp]) hm4
        · have hp : fitP F v el sz r 1 i = true := by unfold fitP; rw [← hy4]; exact decide_eq_true c_49
          refine a_iload_4 (pc := 52) dX7_fitting_52 ?_
          refine b_if_eq (pc := 54) (tgt := 60) dX7_fitting_54 (by decide) (fun c_54 => ?_) (fun c_54 => ?_)
          · refine a_iinc_5 (pc := 60) (v := nI (fit + 1)) dX7_fitting_60 (nI_add _ _) (by decide) (by first | rfl | trivial) ?_
            refine a_iinc_6 (pc := 63) (v := nI (i + 1)) dX7_fitting_63 (nI_add _ _) (by decide) (by first | rfl | trivial) ?_
            refine a_goto (pc := 66) (tgt := 10) dX7_fitting_66 (by decide) ?_
            exact ih (i + 1) (fit + 1) _ _ (by omega) (by omega) (by omega) (by rw [← hN, cnt_st (show i < 10 by omega), hp]; simp; omega) (fun z => by rw [c_54] at z; cases z) hm4
          · refine a_iload_6 (pc := 57) dX7_fitting_57 ?_
            exact a_iret (pc := 59) dX7_fitting_59 rfl (zf hz) (k _ _ _ (by rw [c_54, if_pos rfl, ← hL c_54]; exact (fs_hit (by omega) hp).symm) hm4)
  refine AM.of [some (.ref (gB G + 25)), some (.ref (gB G + q)), some (.int (nI (r))), some (.int (nI (1))), some (.int (bI (le))), none, none] pnX7 (Nat.le_of_ble_eq_true rfl) (by simp [lsub, lvI, Value.category]) ?_
  refine a_iconst (pc := 0) (v := nI 0) dX7_fitting_0 (by decide) ?_
  refine a_istore_5 (pc := 1) dX7_fitting_1 (by decide) (by first | rfl | trivial) ?_
  refine a_getsN (pc := 3) (i := 0) (host := RX11) (by decide) dX7_fitting_3 rfl (by decide +kernel) ?_
  refine a_iloadn_3 (pc := 6) dX7_fitting_6 ?_
  refine a_sil (pc := 7) 1 (t := 0) (by decide) dX7_fitting_7 rfl (by decide) ?_
  refine a_topi (nI 0) (by decide) ?_
  refine a_istore_6 (pc := 8) dX7_fitting_8 (by decide) (by first | rfl | trivial) ?_
  exact lp 11 0 0 _ _ (by omega) (by omega) (by omega) (Nat.zero_add _) (fun _ => rfl) hm
set_option maxRecDepth 100000 in
set_option maxHeartbeats 4000000 in
theorem q_fitH {G : Cx} {d : Nat} {h h0 : List va_E} {v x : Cv} {F : Lf} {s : Nat × Nat × Int32} {Q : Option Value → List va_E → Prop} (hd : 9 ≤ d) (hz : gz G = false) (hm : TQ G h0 h v x F s) {q : Nat} {sc : Int32} {rw : Bool} {so sz : Nat} {el : Nat → Int64} (hq : 65 ≤ q) (hsh : shAt G h0 q sc rw so sz el) {le : Bool} (k : ∀ y h1 x1, y = (if le = true then fitL F v el sz 0 4 1 else nI (fitN F v el sz 0 4 1)) → TQ G h0 h1 v x1 F s → Q (some (.int y)) h1) : AM G yX7_fitting cX7_fitting 7 (some .int) d 0 0 [.ref (gB G + 25), .ref (gB G + q), .int (nI (0)), .int (nI (4)), .int (bI (le))] h Q := by
  obtain ⟨d, rfl, he⟩ := dpos hd
  have lp : ∀ (n i fit : Nat) (h1 : List va_E) (x : Cv), 10 - i < n → i ≤ 10 → 1 ≤ i → fit + cntf (fitP F v el sz 0 4) (10 - i) i = fitN F v el sz 0 4 1 → (le = true → fsrch (fitP F v el sz 0 4) (10 - i) i = fitL F v el sz 0 4 1) → TQ G h0 h1 v x F s → AW G yX7_fitting cX7_fitting 7 (some .int) (rmx (d + 1) 0 0) (ZQ G 0 0 (h.length + 0) Q) 0 0 10 [some (.ref (gB G + 25)), some (.ref (gB G + q)), some (.int (nI (0))), some (.int (nI (4))), some (.int (bI (le))), some (.int (nI (fit))), some (.int (nI (i)))] [] h1 := by
    intro n
    induction n with
    | zero => intro i fit h1 x hn; exact absurd hn (Nat.not_lt_zero _)
    | succ n ih =>
      intro i fit h1 x hn hi hlo hN hL hm1
      refine a_iload_6 (pc := 10) dX7_fitting_10 ?_
      refine a_getsN (pc := 12) (i := 1) (host := RX11) (by decide) dX7_fitting_12 rfl (by decide +kernel) ?_
      refine a_iloadn_3 (pc := 15) dX7_fitting_15 ?_
      refine a_sil (pc := 16) 4 (t := 1) (by decide) dX7_fitting_16 rfl (by decide) ?_
      refine a_topi (nI 9) (by decide) ?_
      refine n_icmp_gt (tgt := 69) dX7_fitting_17 (by decide) (by omega) (by decide) (fun c_17 => ?_) (fun c_17 => ?_)
      · refine a_iload_4 (pc := 69) dX7_fitting_69 ?_
        refine b_if_eq (pc := 71) (tgt := 79) dX7_fitting_71 (by decide) (fun c_71 => ?_) (fun c_71 => ?_)
        · refine a_iload_5 (pc := 79) dX7_fitting_79 ?_
          exact a_iret (pc := 81) dX7_fitting_81 rfl (zf hz) (k _ _ _ (by rw [c_71]; simp only [Bool.false_eq_true, if_false]; rw [← hN, cnt_end (by omega), Nat.add_zero]) hm1)
        · refine a_bipush (pc := 74) (v := (-2)) dX7_fitting_74 (by decide) ?_
          refine a_goto (pc := 76) (tgt := 81) dX7_fitting_76 (by decide) ?_
          exact a_iret (pc := 81) dX7_fitting_81 rfl (zf hz) (k _ _ _ (by rw [c_71, if_pos rfl, ← hL c_71, fs_end (by omega)]) hm1)
      · refine a_aloadn_0 (pc := 20) dX7_fitting_20 ?_
        refine gf_X7_12 (pc := 21) rfl dX7_fitting_21 hm1.th ?_
        refine a_aloadn_0 (pc := 24) dX7_fitting_24 ?_
        refine gf_X7_18 (pc := 25) rfl dX7_fitting_25 hm1.th ?_
        refine cv_X7_25 (pc := 28) rfl dX7_fitting_28 hm1.c26.choose_spec (Nat.le_of_ble_eq_true rfl) ?_
        refine q_copy (by omega) hz hm1 (fun h2 hm2 => ?_)
        refine a_aloadn_0 (pc := 31) dX7_fitting_31 ?_
        refine gf_X7_12 (pc := 32) rfl dX7_fitting_32 hm2.th ?_
        refine a_iloadn_2 (pc := 35) dX7_fitting_35 ?_
        refine a_iloadn_3 (pc := 36) dX7_fitting_36 ?_
        refine a_iload_6 (pc := 37) dX7_fitting_37 ?_
        refine cv_X7_101 (pc := 39) rfl dX7_fitting_39 hm2.c26.choose_spec (Nat.le_of_ble_eq_true rfl) ?_
        refine q_tell (by omega) hz hm2 (by decide) (fun _ => by omega) (by exact ⟨by show nI 1 ≤ nI i; exact nI_le (by omega) (by omega), by show nI i ≤ nI 9; exact nI_le (by omega) (by decide), by omega⟩) (fun h3 hm3 => ?_)
        refine a_aloadn_0 (pc := 42) dX7_fitting_42 ?_
        refine a_aloadn_1 (pc := 43) dX7_fitting_43 ?_
        refine cv_X7_76 (pc := 44) rfl dX7_fitting_44 hm3.th (Nat.le_of_ble_eq_true rfl) ?_
        refine q_unlike (by omega) hz hm3 hq hsh (fun y4 h4 x4 hy4 hm4 => ?_)
        refine a_bipush (pc := 47) (v := (-2)) dX7_fitting_47 (by decide) ?_
        refine a_icmp_ne (pc := 49) (tgt := 63) dX7_fitting_49 (by decide) (fun c_49 => ?_) (fun c_49 => ?_)
        · have hp : fitP F v el sz 0 4 i = false := by unfold fitP; rw [← hy4]; exact decide_eq_false c_49
          refine a_iinc_6 (pc := 63) (v := nI (i + 1)) dX7_fitting_63 (nI_add _ _) (by decide) (by first | rfl | trivial) ?_
          refine a_goto (pc := 66) (tgt := 10) dX7_fitting_66 (by decide) ?_
          exact ih (i + 1) fit _ _ (by omega) (by omega) (by omega) (by rw [← hN, cnt_st (show i < 10 by omega), hp]; simp) (fun z => by rw [← hL z, fs_miss (by omega) hp]) hm4
        · have hp : fitP F v el sz 0 4 i = true := by unfold fitP; rw [← hy4]; exact decide_eq_true c_49
          refine a_iload_4 (pc := 52) dX7_fitting_52 ?_
          refine b_if_eq (pc := 54) (tgt := 60) dX7_fitting_54 (by decide) (fun c_54 => ?_) (fun c_54 => ?_)
          · refine a_iinc_5 (pc := 60) (v := nI (fit + 1)) dX7_fitting_60 (nI_add _ _) (by decide) (by first | rfl | trivial) ?_
            refine a_iinc_6 (pc := 63) (v := nI (i + 1)) dX7_fitting_63 (nI_add _ _) (by decide) (by first | rfl | trivial) ?_
            refine a_goto (pc := 66) (tgt := 10) dX7_fitting_66 (by decide) ?_
            exact ih (i + 1) (fit + 1) _ _ (by omega) (by omega) (by omega) (by rw [← hN, cnt_st (show i < 10 by omega), hp]; simp; omega) (fun z => by rw [c_54] at z; cases z) hm4
          · refine a_iload_6 (pc := 57) dX7_fitting_57 ?_
            exact a_iret (pc := 59) dX7_fitting_59 rfl (zf hz) (k _ _ _ (by rw [c_54, if_pos rfl, ← hL c_54]; exact (fs_hit (by omega) hp).symm) hm4)
  refine AM.of [some (.ref (gB G + 25)), some (.ref (gB G + q)), some (.int (nI (0))), some (.int (nI (4))), some (.int (bI (le))), none, none] pnX7 (Nat.le_of_ble_eq_true rfl) (by simp [lsub, lvI, Value.category]) ?_
  refine a_iconst (pc := 0) (v := nI 0) dX7_fitting_0 (by decide) ?_
  refine a_istore_5 (pc := 1) dX7_fitting_1 (by decide) (by first | rfl | trivial) ?_
  refine a_getsN (pc := 3) (i := 0) (host := RX11) (by decide) dX7_fitting_3 rfl (by decide +kernel) ?_
  refine a_iloadn_3 (pc := 6) dX7_fitting_6 ?_
  refine a_sil (pc := 7) 4 (t := 0) (by decide) dX7_fitting_7 rfl (by decide) ?_
  refine a_topi (nI 1) (by decide) ?_
  refine a_istore_6 (pc := 8) dX7_fitting_8 (by decide) (by first | rfl | trivial) ?_
  exact lp 11 1 0 _ _ (by omega) (by omega) (by omega) (Nat.zero_add _) (fun _ => rfl) hm
set_option maxRecDepth 100000 in
set_option maxHeartbeats 4000000 in
theorem q_mothsA {G : Cx} {d : Nat} {h h0 : List va_E} {v x : Cv} {F : Lf} {s : Nat × Nat × Int32} {Q : Option Value → List va_E → Prop} (hd : 9 ≤ d) (hz : gz G = false) (hm : TQ G h0 h v x F s) {sd : Int32} {na m mo : Nat} (h9 : na < 1000 ∧ m < 1000 ∧ mo < 1000) (k : ∀ y h1 x1, y = nI (sumN F v mo m (fun u => ctn (cK u) 36) na sd) → TQ G h0 h1 v x1 F s → Q (some (.int y)) h1) : AM G yX7_darkByMoths cX7_darkByMoths 10 (some .int) d 0 0 [.ref (gB G + 25), .int (sd), .int (nI (na)), .int (nI (m)), .int (nI (mo)), .int ((-1))] h Q := by
  obtain ⟨d, rfl, he⟩ := dpos hd
  obtain ⟨na9, m9_, mo9⟩ := h9
  have lp : ∀ (n i : Nat) (z : Int32) (sum : Nat) (h1 : List va_E) (x : Cv), na - i < n → i ≤ na → sum + sumN F v mo m (fun u => ctn (cK u) 36) (na - i) z = sumN F v mo m (fun u => ctn (cK u) 36) na sd → TQ G h0 h1 v x F s → AW G yX7_darkByMoths cX7_darkByMoths 10 (some .int) (rmx (d + 1) 0 0) (ZQ G 0 0 (h.length + 0) Q) 0 0 9 [some (.ref (gB G + 25)), some (.int (sd)), some (.int (nI (na))), some (.int (nI (m))), some (.int (nI (mo))), some (.int ((-1))), some (.int (z)), some (.int (nI (sum))), some (.int (nI (i))), none] [] h1 := by
    intro n
    induction n with
    | zero => intro i z sum h1 x hn; exact absurd hn (Nat.not_lt_zero _)
    | succ n ih =>
      intro i z sum h1 x hn hi hT hm1
      refine a_iload_8 (pc := 9) dX7_darkByMoths_9 ?_
      refine a_iloadn_2 (pc := 11) dX7_darkByMoths_11 ?_
      refine n_icmp_ge (tgt := 128) dX7_darkByMoths_12 (by decide) (by omega) (by omega) (fun c_12 => ?_) (fun c_12 => ?_)
      · refine a_iload_7 (pc := 128) dX7_darkByMoths_128 ?_
        exact a_iret (pc := 130) dX7_darkByMoths_130 rfl (zf hz) (k _ _ _ (by rw [← hT, show na - i = 0 by omega, sumN, Nat.add_zero]) hm1)
      · refine a_aloadn_0 (pc := 15) dX7_darkByMoths_15 ?_
        refine gf_X7_12 (pc := 16) rfl dX7_darkByMoths_16 hm1.th ?_
        refine a_aloadn_0 (pc := 19) dX7_darkByMoths_19 ?_
        refine gf_X7_18 (pc := 20) rfl dX7_darkByMoths_20 hm1.th ?_
        refine cv_X7_25 (pc := 23) rfl dX7_darkByMoths_23 hm1.c26.choose_spec (Nat.le_of_ble_eq_true rfl) ?_
        refine q_copy (by omega) hz hm1 (fun h1 hm1 => ?_)
        refine a_iconst (pc := 26) (v := nI 0) dX7_darkByMoths_26 (by decide) ?_
        refine a_istore_9 (pc := 27) dX7_darkByMoths_27 (by decide) (by first | rfl | trivial) ?_
        obtain ⟨R, hR0⟩ : ∃ R, nightC F mo m z v = R := ⟨_, rfl⟩
        have lpi : ∀ (nj j : Nat) (z : Int32) (h1 : List va_E) (x : Cv), m - j < nj → j ≤ m → nightC F mo (m - j) z x = R → TQ G h0 h1 v x F s → AW G yX7_darkByMoths cX7_darkByMoths 10 (some .int) (rmx (d + 1) 0 0) (ZQ G 0 0 (h.length + 0) Q) 0 0 29 [some (.ref (gB G + 25)), some (.int (sd)), some (.int (nI (na))), some (.int (nI (m))), some (.int (nI (mo))), some (.int ((-1))), some (.int (z)), some (.int (nI (sum))), some (.int (nI (i))), some (.int (nI (j)))] [] h1 := by
          intro nj
          induction nj with
          | zero => intro j z h1 x hn; exact absurd hn (Nat.not_lt_zero _)
          | succ nj ihj =>
            intro j z h1 x hn hj hR hm1
            refine a_iload_9 (pc := 29) dX7_darkByMoths_29 ?_
            refine a_iloadn_3 (pc := 31) dX7_darkByMoths_31 ?_
            refine n_icmp_ge (tgt := 92) dX7_darkByMoths_32 (by decide) (by omega) (by omega) (fun c_32 => ?_) (fun c_32 => ?_)
            · have hR2 : (z, x) = R := by rw [← hR, show m - j = 0 by omega, nightC]
              refine a_iload_7 (pc := 92) dX7_darkByMoths_92 ?_
              refine a_iload_5 (pc := 94) dX7_darkByMoths_94 ?_
              refine a_if_ge (pc := 96) (tgt := 109) dX7_darkByMoths_96 (by decide) (fun c_96 => absurd c_96 (by decide)) (fun c_96 => ?_)
              refine a_aloadn_0 (pc := 99) dX7_darkByMoths_99 ?_
              refine gf_X7_12 (pc := 100) rfl dX7_darkByMoths_100 hm1.th ?_
              refine cv_X7_70 (pc := 103) rfl dX7_darkByMoths_103 hm1.c26.choose_spec (Nat.le_of_ble_eq_true rfl) ?_
              refine q_darkCount (by omega) hz hm1 ?_
              refine a_goto (pc := 106) (tgt := 119) dX7_darkByMoths_106 (by decide) ?_
              refine n_iadd dX7_darkByMoths_119 ?_
              refine a_istore_7 (pc := 120) dX7_darkByMoths_120 (by decide) (by first | rfl | trivial) ?_
              refine a_iinc_8 (pc := 122) (v := nI (i + 1)) dX7_darkByMoths_122 (nI_add _ _) (by decide) (by first | rfl | trivial) ?_
              refine a_goto (pc := 125) (tgt := 9) dX7_darkByMoths_125 (by decide) ?_
              refine a_ls (ls' := [some _, some _, some _, some _, some _, some _, some _, some _, some _, none]) ⟨rfl, rfl, rfl, rfl, rfl, rfl, rfl, rfl, rfl, trivial⟩ ?_
              exact ih (i + 1) z _ _ _ (by omega) (by omega) (by rw [← hT, show na - i = (na - (i + 1)) + 1 by omega, sumN, hR0, ← hR2]; exact (Nat.add_assoc _ _ _)) hm1
            · refine a_iload_6 (pc := 35) dX7_darkByMoths_35 ?_
              refine a_ldc (pc := 37) dX7_darkByMoths_37 w_821 ?_
              refine a_imul (pc := 39) dX7_darkByMoths_39 ?_
              refine a_sipush (pc := 40) (v := nI 12345) dX7_darkByMoths_40 (by decide) ?_
              refine a_iadd (pc := 43) dX7_darkByMoths_43 ?_
              refine a_topi (zn z) rfl ?_
              refine a_istore_6 (pc := 44) dX7_darkByMoths_44 (by decide) (by first | rfl | trivial) ?_
              refine a_iload_6 (pc := 46) dX7_darkByMoths_46 ?_
              refine a_bipush (pc := 48) (v := nI 16) dX7_darkByMoths_48 (by decide) ?_
              refine a_iushr (pc := 50) dX7_darkByMoths_50 ?_
              refine a_topi (nI ((zn z).toBitVec.toNat / 65536)) (ush16 _) ?_
              have z9 : (zn z).toBitVec.toNat < 4294967296 := (zn z).toBitVec.isLt
              refine a_bipush (pc := 51) (v := nI 12) dX7_darkByMoths_51 (by decide) ?_
              refine n_irem dX7_darkByMoths_53 (by omega) (by decide) (by decide) ?_
              refine a_topi (nI (mth (zn z))) rfl ?_
              refine a_iload_4 (pc := 54) dX7_darkByMoths_54 ?_
              have m9 := mth_lt (zn z)
              refine n_icmp_ge (tgt := 75) dX7_darkByMoths_56 (by decide) (by omega) (by omega) (fun c_56 => ?_) (fun c_56 => ?_)
              · refine a_aloadn_0 (pc := 75) dX7_darkByMoths_75 ?_
                refine gf_X7_12 (pc := 76) rfl dX7_darkByMoths_76 hm1.th ?_
                refine a_aloadn_0 (pc := 79) dX7_darkByMoths_79 ?_
                refine gf_X7_21 (pc := 80) rfl dX7_darkByMoths_80 hm1.th ?_
                refine cv_X7_29 (pc := 83) rfl dX7_darkByMoths_83 hm1.c26.choose_spec (Nat.le_of_ble_eq_true rfl) ?_
                refine q_hour (by omega) hz hm1 (fun h2 hm2 => ?_)
                refine a_iinc_9 (pc := 86) (v := nI (j + 1)) dX7_darkByMoths_86 (nI_add _ _) (by decide) (by first | rfl | trivial) ?_
                refine a_goto (pc := 89) (tgt := 29) dX7_darkByMoths_89 (by decide) ?_
                exact ihj (j + 1) (zn z) _ _ (by omega) (by omega) (by rw [← hR, show m - j = (m - (j + 1)) + 1 by omega, nightC, if_neg (Nat.not_lt.mpr c_56)]) hm2
              · refine a_aloadn_0 (pc := 59) dX7_darkByMoths_59 ?_
                refine gf_X7_12 (pc := 60) rfl dX7_darkByMoths_60 hm1.th ?_
                refine a_iload_6 (pc := 63) dX7_darkByMoths_63 ?_
                refine a_bipush (pc := 65) (v := nI 8) dX7_darkByMoths_65 (by decide) ?_
                refine a_iushr (pc := 67) dX7_darkByMoths_67 ?_
                refine a_topi (nI ((zn z).toBitVec.toNat / 256)) (ush8 _) ?_
                refine a_bipush (pc := 68) (v := nI 36) dX7_darkByMoths_68 (by decide) ?_
                refine n_irem dX7_darkByMoths_70 (by omega) (by decide) (by decide) ?_
                refine a_topi (nI (rmz (zn z))) rfl ?_
                refine a_iconst (pc := 71) (v := nI 0) dX7_darkByMoths_71 (by decide) ?_
                have r9 := rmz_lt (zn z)
                refine cv_X7_45 (pc := 72) rfl dX7_darkByMoths_72 hm1.c26.choose_spec (Nat.le_of_ble_eq_true rfl) ?_
                refine q_setWax (by omega) hz hm1 (by omega) (by omega) (fun h2 hm2 => ?_)
                refine a_aloadn_0 (pc := 75) dX7_darkByMoths_75 ?_
                refine gf_X7_12 (pc := 76) rfl dX7_darkByMoths_76 hm2.th ?_
                refine a_aloadn_0 (pc := 79) dX7_darkByMoths_79 ?_
                refine gf_X7_21 (pc := 80) rfl dX7_darkByMoths_80 hm2.th ?_
                refine cv_X7_29 (pc := 83) rfl dX7_darkByMoths_83 hm2.c26.choose_spec (Nat.le_of_ble_eq_true rfl) ?_
                refine q_hour (by omega) hz hm2 (fun h3 hm3 => ?_)
                refine a_iinc_9 (pc := 86) (v := nI (j + 1)) dX7_darkByMoths_86 (nI_add _ _) (by decide) (by first | rfl | trivial) ?_
                refine a_goto (pc := 89) (tgt := 29) dX7_darkByMoths_89 (by decide) ?_
                exact ihj (j + 1) (zn z) _ _ (by omega) (by omega) (by rw [← hR, show m - j = (m - (j + 1)) + 1 by omega, nightC, if_pos c_56]) hm3
        exact lpi (m + 1) 0 z _ _ (by omega) (by omega) hR0 hm1
  refine AM.of [some (.ref (gB G + 25)), some (.int (sd)), some (.int (nI (na))), some (.int (nI (m))), some (.int (nI (mo))), some (.int ((-1))), none, none, none, none] pnX7 (Nat.le_of_ble_eq_true rfl) (by simp [lsub, lvI, Value.category]) ?_
  refine a_iloadn_1 (pc := 0) dX7_darkByMoths_0 ?_
  refine a_istore_6 (pc := 1) dX7_darkByMoths_1 (by decide) (by first | rfl | trivial) ?_
  refine a_iconst (pc := 3) (v := nI 0) dX7_darkByMoths_3 (by decide) ?_
  refine a_istore_7 (pc := 4) dX7_darkByMoths_4 (by decide) (by first | rfl | trivial) ?_
  refine a_iconst (pc := 6) (v := nI 0) dX7_darkByMoths_6 (by decide) ?_
  refine a_istore_8 (pc := 7) dX7_darkByMoths_7 (by decide) (by first | rfl | trivial) ?_
  exact lp (na + 1) 0 sd 0 _ _ (by omega) (by omega) (Nat.zero_add _) hm
set_option maxRecDepth 100000 in
set_option maxHeartbeats 4000000 in
theorem q_mothsR {G : Cx} {d : Nat} {h h0 : List va_E} {v x : Cv} {F : Lf} {s : Nat × Nat × Int32} {Q : Option Value → List va_E → Prop} (hd : 9 ≤ d) (hz : gz G = false) (hm : TQ G h0 h v x F s) {sd : Int32} {na m mo : Nat} {r : Nat} (hr : r < 36) (h9 : na < 1000 ∧ m < 1000 ∧ mo < 1000) (k : ∀ y h1 x1, y = nI (sumN F v mo m (fun u => (cK u r).toNat) na sd) → TQ G h0 h1 v x1 F s → Q (some (.int y)) h1) : AM G yX7_darkByMoths cX7_darkByMoths 10 (some .int) d 0 0 [.ref (gB G + 25), .int (sd), .int (nI (na)), .int (nI (m)), .int (nI (mo)), .int (nI (r))] h Q := by
  obtain ⟨d, rfl, he⟩ := dpos hd
  obtain ⟨na9, m9_, mo9⟩ := h9
  have lp : ∀ (n i : Nat) (z : Int32) (sum : Nat) (h1 : List va_E) (x : Cv), na - i < n → i ≤ na → sum + sumN F v mo m (fun u => (cK u r).toNat) (na - i) z = sumN F v mo m (fun u => (cK u r).toNat) na sd → TQ G h0 h1 v x F s → AW G yX7_darkByMoths cX7_darkByMoths 10 (some .int) (rmx (d + 1) 0 0) (ZQ G 0 0 (h.length + 0) Q) 0 0 9 [some (.ref (gB G + 25)), some (.int (sd)), some (.int (nI (na))), some (.int (nI (m))), some (.int (nI (mo))), some (.int (nI (r))), some (.int (z)), some (.int (nI (sum))), some (.int (nI (i))), none] [] h1 := by
    intro n
    induction n with
    | zero => intro i z sum h1 x hn; exact absurd hn (Nat.not_lt_zero _)
    | succ n ih =>
      intro i z sum h1 x hn hi hT hm1
      refine a_iload_8 (pc := 9) dX7_darkByMoths_9 ?_
      refine a_iloadn_2 (pc := 11) dX7_darkByMoths_11 ?_
      refine n_icmp_ge (tgt := 128) dX7_darkByMoths_12 (by decide) (by omega) (by omega) (fun c_12 => ?_) (fun c_12 => ?_)
      · refine a_iload_7 (pc := 128) dX7_darkByMoths_128 ?_
        exact a_iret (pc := 130) dX7_darkByMoths_130 rfl (zf hz) (k _ _ _ (by rw [← hT, show na - i = 0 by omega, sumN, Nat.add_zero]) hm1)
      · refine a_aloadn_0 (pc := 15) dX7_darkByMoths_15 ?_
        refine gf_X7_12 (pc := 16) rfl dX7_darkByMoths_16 hm1.th ?_
        refine a_aloadn_0 (pc := 19) dX7_darkByMoths_19 ?_
        refine gf_X7_18 (pc := 20) rfl dX7_darkByMoths_20 hm1.th ?_
        refine cv_X7_25 (pc := 23) rfl dX7_darkByMoths_23 hm1.c26.choose_spec (Nat.le_of_ble_eq_true rfl) ?_
        refine q_copy (by omega) hz hm1 (fun h1 hm1 => ?_)
        refine a_iconst (pc := 26) (v := nI 0) dX7_darkByMoths_26 (by decide) ?_
        refine a_istore_9 (pc := 27) dX7_darkByMoths_27 (by decide) (by first | rfl | trivial) ?_
        obtain ⟨R, hR0⟩ : ∃ R, nightC F mo m z v = R := ⟨_, rfl⟩
        have lpi : ∀ (nj j : Nat) (z : Int32) (h1 : List va_E) (x : Cv), m - j < nj → j ≤ m → nightC F mo (m - j) z x = R → TQ G h0 h1 v x F s → AW G yX7_darkByMoths cX7_darkByMoths 10 (some .int) (rmx (d + 1) 0 0) (ZQ G 0 0 (h.length + 0) Q) 0 0 29 [some (.ref (gB G + 25)), some (.int (sd)), some (.int (nI (na))), some (.int (nI (m))), some (.int (nI (mo))), some (.int (nI (r))), some (.int (z)), some (.int (nI (sum))), some (.int (nI (i))), some (.int (nI (j)))] [] h1 := by
          intro nj
          induction nj with
          | zero => intro j z h1 x hn; exact absurd hn (Nat.not_lt_zero _)
          | succ nj ihj =>
            intro j z h1 x hn hj hR hm1
            refine a_iload_9 (pc := 29) dX7_darkByMoths_29 ?_
            refine a_iloadn_3 (pc := 31) dX7_darkByMoths_31 ?_
            refine n_icmp_ge (tgt := 92) dX7_darkByMoths_32 (by decide) (by omega) (by omega) (fun c_32 => ?_) (fun c_32 => ?_)
            · have hR2 : (z, x) = R := by rw [← hR, show m - j = 0 by omega, nightC]
              refine a_iload_7 (pc := 92) dX7_darkByMoths_92 ?_
              refine a_iload_5 (pc := 94) dX7_darkByMoths_94 ?_
              refine n_if_ge (tgt := 109) dX7_darkByMoths_96 (by decide) (by omega) ?_
              refine a_aloadn_0 (pc := 109) dX7_darkByMoths_109 ?_
              refine gf_X7_12 (pc := 110) rfl dX7_darkByMoths_110 hm1.th ?_
              refine a_iload_5 (pc := 113) dX7_darkByMoths_113 ?_
              refine a_iconst (pc := 115) (v := nI 3) dX7_darkByMoths_115 (by decide) ?_
              refine cv_X7_105 (pc := 116) rfl dX7_darkByMoths_116 hm1.c26.choose_spec (Nat.le_of_ble_eq_true rfl) ?_
              refine q_numberOf (by omega) hz hm1 (by decide) (by omega) ?_
              refine n_iadd dX7_darkByMoths_119 ?_
              refine a_istore_7 (pc := 120) dX7_darkByMoths_120 (by decide) (by first | rfl | trivial) ?_
              refine a_iinc_8 (pc := 122) (v := nI (i + 1)) dX7_darkByMoths_122 (nI_add _ _) (by decide) (by first | rfl | trivial) ?_
              refine a_goto (pc := 125) (tgt := 9) dX7_darkByMoths_125 (by decide) ?_
              refine a_ls (ls' := [some _, some _, some _, some _, some _, some _, some _, some _, some _, none]) ⟨rfl, rfl, rfl, rfl, rfl, rfl, rfl, rfl, rfl, trivial⟩ ?_
              exact ih (i + 1) z _ _ _ (by omega) (by omega) (by rw [← hT, show na - i = (na - (i + 1)) + 1 by omega, sumN, hR0, ← hR2]; exact (Nat.add_assoc _ _ _)) hm1
            · refine a_iload_6 (pc := 35) dX7_darkByMoths_35 ?_
              refine a_ldc (pc := 37) dX7_darkByMoths_37 w_821 ?_
              refine a_imul (pc := 39) dX7_darkByMoths_39 ?_
              refine a_sipush (pc := 40) (v := nI 12345) dX7_darkByMoths_40 (by decide) ?_
              refine a_iadd (pc := 43) dX7_darkByMoths_43 ?_
              refine a_topi (zn z) rfl ?_
              refine a_istore_6 (pc := 44) dX7_darkByMoths_44 (by decide) (by first | rfl | trivial) ?_
              refine a_iload_6 (pc := 46) dX7_darkByMoths_46 ?_
              refine a_bipush (pc := 48) (v := nI 16) dX7_darkByMoths_48 (by decide) ?_
              refine a_iushr (pc := 50) dX7_darkByMoths_50 ?_
              refine a_topi (nI ((zn z).toBitVec.toNat / 65536)) (ush16 _) ?_
              have z9 : (zn z).toBitVec.toNat < 4294967296 := (zn z).toBitVec.isLt
              refine a_bipush (pc := 51) (v := nI 12) dX7_darkByMoths_51 (by decide) ?_
              refine n_irem dX7_darkByMoths_53 (by omega) (by decide) (by decide) ?_
              refine a_topi (nI (mth (zn z))) rfl ?_
              refine a_iload_4 (pc := 54) dX7_darkByMoths_54 ?_
              have m9 := mth_lt (zn z)
              refine n_icmp_ge (tgt := 75) dX7_darkByMoths_56 (by decide) (by omega) (by omega) (fun c_56 => ?_) (fun c_56 => ?_)
              · refine a_aloadn_0 (pc := 75) dX7_darkByMoths_75 ?_
                refine gf_X7_12 (pc := 76) rfl dX7_darkByMoths_76 hm1.th ?_
                refine a_aloadn_0 (pc := 79) dX7_darkByMoths_79 ?_
                refine gf_X7_21 (pc := 80) rfl dX7_darkByMoths_80 hm1.th ?_
                refine cv_X7_29 (pc := 83) rfl dX7_darkByMoths_83 hm1.c26.choose_spec (Nat.le_of_ble_eq_true rfl) ?_
                refine q_hour (by omega) hz hm1 (fun h2 hm2 => ?_)
                refine a_iinc_9 (pc := 86) (v := nI (j + 1)) dX7_darkByMoths_86 (nI_add _ _) (by decide) (by first | rfl | trivial) ?_
                refine a_goto (pc := 89) (tgt := 29) dX7_darkByMoths_89 (by decide) ?_
                exact ihj (j + 1) (zn z) _ _ (by omega) (by omega) (by rw [← hR, show m - j = (m - (j + 1)) + 1 by omega, nightC, if_neg (Nat.not_lt.mpr c_56)]) hm2
              · refine a_aloadn_0 (pc := 59) dX7_darkByMoths_59 ?_
                refine gf_X7_12 (pc := 60) rfl dX7_darkByMoths_60 hm1.th ?_
                refine a_iload_6 (pc := 63) dX7_darkByMoths_63 ?_
                refine a_bipush (pc := 65) (v := nI 8) dX7_darkByMoths_65 (by decide) ?_
                refine a_iushr (pc := 67) dX7_darkByMoths_67 ?_
                refine a_topi (nI ((zn z).toBitVec.toNat / 256)) (ush8 _) ?_
                refine a_bipush (pc := 68) (v := nI 36) dX7_darkByMoths_68 (by decide) ?_
                refine n_irem dX7_darkByMoths_70 (by omega) (by decide) (by decide) ?_
                refine a_topi (nI (rmz (zn z))) rfl ?_
                refine a_iconst (pc := 71) (v := nI 0) dX7_darkByMoths_71 (by decide) ?_
                have r9 := rmz_lt (zn z)
                refine cv_X7_45 (pc := 72) rfl dX7_darkByMoths_72 hm1.c26.choose_spec (Nat.le_of_ble_eq_true rfl) ?_
                refine q_setWax (by omega) hz hm1 (by omega) (by omega) (fun h2 hm2 => ?_)
                refine a_aloadn_0 (pc := 75) dX7_darkByMoths_75 ?_
                refine gf_X7_12 (pc := 76) rfl dX7_darkByMoths_76 hm2.th ?_
                refine a_aloadn_0 (pc := 79) dX7_darkByMoths_79 ?_
                refine gf_X7_21 (pc := 80) rfl dX7_darkByMoths_80 hm2.th ?_
                refine cv_X7_29 (pc := 83) rfl dX7_darkByMoths_83 hm2.c26.choose_spec (Nat.le_of_ble_eq_true rfl) ?_
                refine q_hour (by omega) hz hm2 (fun h3 hm3 => ?_)
                refine a_iinc_9 (pc := 86) (v := nI (j + 1)) dX7_darkByMoths_86 (nI_add _ _) (by decide) (by first | rfl | trivial) ?_
                refine a_goto (pc := 89) (tgt := 29) dX7_darkByMoths_89 (by decide) ?_
                exact ihj (j + 1) (zn z) _ _ (by omega) (by omega) (by rw [← hR, show m - j = (m - (j + 1)) + 1 by omega, nightC, if_pos c_56]) hm3
        exact lpi (m + 1) 0 z _ _ (by omega) (by omega) hR0 hm1
  refine AM.of [some (.ref (gB G + 25)), some (.int (sd)), some (.int (nI (na))), some (.int (nI (m))), some (.int (nI (mo))), some (.int (nI (r))), none, none, none, none] pnX7 (Nat.le_of_ble_eq_true rfl) (by simp [lsub, lvI, Value.category]) ?_
  refine a_iloadn_1 (pc := 0) dX7_darkByMoths_0 ?_
  refine a_istore_6 (pc := 1) dX7_darkByMoths_1 (by decide) (by first | rfl | trivial) ?_
  refine a_iconst (pc := 3) (v := nI 0) dX7_darkByMoths_3 (by decide) ?_
  refine a_istore_7 (pc := 4) dX7_darkByMoths_4 (by decide) (by first | rfl | trivial) ?_
  refine a_iconst (pc := 6) (v := nI 0) dX7_darkByMoths_6 (by decide) ?_
  refine a_istore_8 (pc := 7) dX7_darkByMoths_7 (by decide) (by first | rfl | trivial) ?_
  exact lp (na + 1) 0 sd 0 _ _ (by omega) (by omega) (Nat.zero_add _) hm
