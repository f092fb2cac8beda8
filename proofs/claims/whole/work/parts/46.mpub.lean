/-! public calls: what they answer (sp..), and the reference's walk to it -/
section B1
variable {G : Cx} {y : MethodName} {cc : ByteArray} {mL : Nat} {rt : Option FieldType} {R : Room} {Z : List Frame → Array Value → State → State → Prop} {cn sn pc : Nat} {ls : List (Option Value)} {st : List Value} {h : List va_E} {b : Bool} {off : Int} {tgt : Nat}
theorem bI_1 {b : Bool} : bI b = nI 1 ↔ b = true := by cases b <;> decide
theorem b1_icmp_eq (hd : decode cc pc = .ok (.if_icmp .eq off, 3)) (ht : (pc : Int) + off = (tgt : Int)) (kt : b = true → AW G y cc mL rt R Z cn sn tgt ls st h) (kf : b = false → AW G y cc mL rt R Z cn sn (pc + 3) ls st h) : AW G y cc mL rt R Z cn sn pc ls (.int (nI 1) :: .int (bI b) :: st) h :=
  a_icmp_eq hd ht (fun q => kt (bI_1.mp q)) (fun q => kf (by cases b with | false => rfl | true => exact absurd (bI_1.mpr rfl) q))
theorem b1_icmp_ne (hd : decode cc pc = .ok (.if_icmp .ne off, 3)) (ht : (pc : Int) + off = (tgt : Int)) (kt : b = false → AW G y cc mL rt R Z cn sn tgt ls st h) (kf : b = true → AW G y cc mL rt R Z cn sn (pc + 3) ls st h) : AW G y cc mL rt R Z cn sn pc ls (.int (nI 1) :: .int (bI b) :: st) h :=
  a_icmp_ne hd ht (fun q => kt (by cases b with | false => rfl | true => exact absurd (bI_1.mpr rfl) q)) (fun q => kf (bI_1.mp q))
end B1
theorem inL_R (lo hi : Nat) (hl : lo < 2147483648) (hh : hi < 2147483648) (x : Int32) : inL (lN lo) (lN hi) x.toInt64 = inR (nI lo) (nI hi) x := by
  rw [← inL_i, nI_l hl, nI_l hh]
def inN (lo hi n : Nat) : Bool := decide (lo ≤ n) && decide (n ≤ hi)
theorem inL_N {lo hi n : Nat} (hl : lo < 2147483648) (hh : hi < 2147483648) (hn : n < 2147483648) : inL (lN lo) (lN hi) (lN n) = inN lo hi n := by
  unfold inL inN
  congr 1
  · rw [decide_eq_decide]; exact lN_leI hl hn
  · rw [decide_eq_decide]; exact lN_leI hn hh
/-- the first so found, from i on, m of them; or NOT -/
def fsrch (P : Nat → Bool) : Nat → Nat → Int32
  | 0, _ => -2
  | m + 1, i => if P i = true then nI i else fsrch P m (i + 1)
theorem fs_hit {P : Nat → Bool} {N i : Nat} (h : i < N) (hp : P i = true) : fsrch P (N - i) i = nI i := by
  rw [show N - i = (N - (i + 1)) + 1 by omega, fsrch, if_pos hp]
theorem fs_miss {P : Nat → Bool} {N i : Nat} (h : i < N) (hp : P i = false) : fsrch P (N - i) i = fsrch P (N - (i + 1)) (i + 1) := by
  rw [show N - i = (N - (i + 1)) + 1 by omega, fsrch, if_neg (by rw [hp]; simp)]
theorem fs_end {P : Nat → Bool} {N i : Nat} (h : N ≤ i) : fsrch P (N - i) i = -2 := by
  rw [show N - i = 0 by omega, fsrch]
def spPress (F : Lf) (v : Cv) (r : Int32) : Int32 := if inR 0 (nI 35) r = true then nI (prs F v (iN r)) else -1
def spLater (F : Lf) (v : Cv) (n r w : Int32) : Int32 := if inR 0 (nI 48) n = true then (if inR 0 (nI 35) r = true then (if inR 0 (nI 1) w = true then (if iN w = 0 then bI (cK (hrs F (iN n) v) (iN r)) else nI (cW (hrs F (iN n) v) (iN r))) else -1) else -1) else -1
def spDark (F : Lf) (v : Cv) (n w : Int32) : Int32 := if inR 0 (nI 48) n = true then (if inR 0 (nI 1) w = true then (if iN w = 0 then nI (ctn (cK (hrs F (iN n) v)) 36) else nI (ctn (fun r => cK (hrs F (iN n) v) r && cC (hrs F (iN n) v) r) 36)) else -1) else -1
def spMap (F : Lf) (v : Cv) (n : Int32) : Int64 := if inR 0 (nI 48) n = true then bL (cK (hrs F (iN n) v)) else -9223372036854775808
def spFalls (F : Lf) (v : Cv) (r : Int32) : Int32 := if inR 0 (nI 35) r = true then fsrch (fun n => cK (hrs F n v) (iN r)) 49 0 else -1
def spStill (F : Lf) (v : Cv) : Int32 := fsrch (fun n => decide (bL (cK (hrs F (n + 1) v)) = bL (cK (hrs F n v)))) 49 0
def alive (F : Lf) (r : Nat) (u : Cv) : Nat → Bool
  | 0 => !cK u r
  | n + 1 => alive F r u n && !cK (hrs F (n + 1) u) r
theorem alive_mono {F : Lf} {r : Nat} {u : Cv} {n : Nat} (h : alive F r u n = false) : ∀ m, n ≤ m → alive F r u m = false
  | 0, hm => by rw [show n = 0 by omega] at h; exact h
  | m + 1, hm => by
    by_cases e : n = m + 1
    · rw [← e]; exact h
    · rw [alive, alive_mono h m (by omega)]; rfl
def spEnough (F : Lf) (v : Cv) (r t : Int32) : Int32 := if inR 0 (nI 35) r = true then (if inR 0 (nI 24) t = true then fsrch (fun w => alive F (iN r) (csW v (iN r) w) (iN t)) 100 0 else -1) else -1
theorem HV_W {b : MB} {p : MP} {t : MT} {o : MO} {v : Cv} {r x : Nat} (h : HV (b, p, t, o) v) : HV (sWax (b, p, t, o) (va_up (mWax (b, p, t, o)) r x)) (csW v r x) := by
  obtain ⟨h1, h2⟩ := h
  refine ⟨fun j hj => ?_, h2⟩
  obtain ⟨g1, g2⟩ := h1 j hj
  refine ⟨?_, g2⟩
  show va_up (mWax (b, p, t, o)) r x j = va_up (cW v) r x j
  unfold va_up
  rw [g1]
set_option maxRecDepth 100000 in
set_option maxHeartbeats 4000000 in
theorem m_areHours {G : Cx} {d : Nat} {h : List va_E} {Q : Option Value → List va_E → Prop} {x : Int32} (hd : 2 ≤ d) (hz : gz G = false) (k : Q (some (.int (bI (inR 0 (nI 48) x)))) h) : AM G yX12_areHours cX12_areHours 1 (some .boolean) d 0 0 [.int x] h Q := by
  obtain ⟨d, rfl, he⟩ := dpos hd
  refine AM.of [some (.int (x))] pnX12 (Nat.le_of_ble_eq_true rfl) (by simp [lsub, lvI, Value.category]) ?_
  refine a_iloadn_0 (pc := 0) dX12_areHours_0 ?_
  refine a_i2l (pc := 1) dX12_areHours_1 ?_
  refine a_lconst (pc := 2) (v := 0) dX12_areHours_2 (by decide) ?_
  refine a_ldc2 (pc := 3) dX12_areHours_3 w_1252 ?_
  refine cs_X12_96 (pc := 6) rfl dX12_areHours_6 (Nat.le_of_ble_eq_true rfl) ?_
  refine m_within (by omega) hz ?_
  refine a_topi (bI (inR 0 (nI 48) x)) (congrArg bI (inL_R 0 48 (by decide) (by decide) x)) ?_
  exact a_zret (pc := 9) dX12_areHours_9 rfl (by first | rfl | exact bI_nar _ | decide) (zf hz) k
set_option maxRecDepth 100000 in
set_option maxHeartbeats 4000000 in
theorem m_press {G : Cx} {d : Nat} {h h0 : List va_E} {b : MB} {p : MP} {t : MT} {o : MO} {Q : Option Value → List va_E → Prop} (hd : 70 ≤ d) (hz : gz G = false) (hm : MS G h0 h (b, p, t, o)) {v : Cv} {F : Lf} (hb : BV (b, p, t, o) v) (okv : okC v) (hL : LM b F) {r : Int32} (hk : ∀ y h1 p1 t1, y = spPress F v r → MS G h0 h1 (b, p1, t1, o) → Q (some (.int y)) h1) : AM G yX12_press cX12_press 2 (some .int) d 0 0 [.ref (gB G + 80), .int (r)] h Q := by
  obtain ⟨d, rfl, he⟩ := dpos hd
  refine AM.of [some (.ref (gB G + 80)), some (.int (r))] pnX12 (Nat.le_of_ble_eq_true rfl) (by simp [lsub, lvI, Value.category]) ?_
  refine a_iloadn_1 (pc := 0) dX12_press_0 ?_
  refine a_i2l (pc := 1) dX12_press_1 ?_
  refine cs_X12_106 (pc := 2) rfl dX12_press_2 (Nat.le_of_ble_eq_true rfl) ?_
  refine m_isRoom (by omega) hz ?_
  refine a_topi (bI (inR 0 (nI 35) r)) (congrArg bI (inL_R 0 35 (by decide) (by decide) r)) ?_
  refine b_if_ne (pc := 5) (tgt := 10) dX12_press_5 (by decide) (fun c_5 => ?_) (fun c_5 => ?_)
  · obtain ⟨n_r, h_r, rfl⟩ := inR_of (by decide) c_5
    have i_r : iN (nI n_r) = n_r := iN_nI (by omega)
    refine a_aloadn_0 (pc := 10) dX12_press_10 ?_
    refine cv_X12_220 (pc := 11) rfl dX12_press_11 hm.2.2.1 (Nat.le_of_ble_eq_true rfl) ?_
    refine m_begins (by omega) hz hm hb (fun h1 t1 hm1 hv1 => ?_)
    refine a_aloadn_0 (pc := 14) dX12_press_14 ?_
    refine a_iloadn_1 (pc := 15) dX12_press_15 ?_
    refine cv_X12_214 (pc := 16) rfl dX12_press_16 hm1.2.2.1 (Nat.le_of_ble_eq_true rfl) ?_
    refine m_pressOn (by omega) hz hm1 hv1 okv hL (by omega) (fun h2 p2 hm2 => ?_)
    have hv2 := hv1
    exact a_iret (pc := 19) dX12_press_19 rfl (zf hz) (hk _ _ _ _ (by simp [spPress, c_5, i_r]) hm2)
  · refine a_iconst (pc := 8) (v := (-1)) dX12_press_8 (by decide) ?_
    exact a_iret (pc := 9) dX12_press_9 rfl (zf hz) (hk _ _ _ _ (by simp [spPress, c_5]) hm)
set_option maxRecDepth 100000 in
set_option maxHeartbeats 4000000 in
theorem m_later {G : Cx} {d : Nat} {h h0 : List va_E} {b : MB} {p : MP} {t : MT} {o : MO} {Q : Option Value → List va_E → Prop} (hd : 70 ≤ d) (hz : gz G = false) (hm : MS G h0 h (b, p, t, o)) {v : Cv} {F : Lf} (hb : BV (b, p, t, o) v) (okv : okC v) (hL : LM b F) {n r w : Int32} (hk : ∀ y h1 p1 t1, y = spLater F v n r w → MS G h0 h1 (b, p1, t1, o) → Q (some (.int y)) h1) : AM G yX12_later cX12_later 4 (some .int) d 0 0 [.ref (gB G + 80), .int (n), .int (r), .int (w)] h Q := by
  obtain ⟨d, rfl, he⟩ := dpos hd
  refine AM.of [some (.ref (gB G + 80)), some (.int (n)), some (.int (r)), some (.int (w))] pnX12 (Nat.le_of_ble_eq_true rfl) (by simp [lsub, lvI, Value.category]) ?_
  refine a_iloadn_1 (pc := 0) dX12_later_0 ?_
  refine cs_X12_225 (pc := 1) rfl dX12_later_1 (Nat.le_of_ble_eq_true rfl) ?_
  refine m_areHours (by omega) hz ?_
  refine b_if_eq (pc := 4) (tgt := 25) dX12_later_4 (by decide) (fun c_4 => ?_) (fun c_4 => ?_)
  · refine a_iconst (pc := 25) (v := (-1)) dX12_later_25 (by decide) ?_
    exact a_iret (pc := 26) dX12_later_26 rfl (zf hz) (hk _ _ _ _ (by simp [spLater, c_4]) hm)
  · obtain ⟨n_n, h_n, rfl⟩ := inR_of (by decide) c_4
    have i_n : iN (nI n_n) = n_n := iN_nI (by omega)
    refine a_iloadn_2 (pc := 7) dX12_later_7 ?_
    refine a_i2l (pc := 8) dX12_later_8 ?_
    refine cs_X12_106 (pc := 9) rfl dX12_later_9 (Nat.le_of_ble_eq_true rfl) ?_
    refine m_isRoom (by omega) hz ?_
    refine a_topi (bI (inR 0 (nI 35) r)) (congrArg bI (inL_R 0 35 (by decide) (by decide) r)) ?_
    refine b_if_eq (pc := 12) (tgt := 25) dX12_later_12 (by decide) (fun c_12 => ?_) (fun c_12 => ?_)
    · refine a_iconst (pc := 25) (v := (-1)) dX12_later_25 (by decide) ?_
      exact a_iret (pc := 26) dX12_later_26 rfl (zf hz) (hk _ _ _ _ (by simp [spLater, c_4, i_n, c_12]) hm)
    · obtain ⟨n_r, h_r, rfl⟩ := inR_of (by decide) c_12
      have i_r : iN (nI n_r) = n_r := iN_nI (by omega)
      refine a_iloadn_3 (pc := 15) dX12_later_15 ?_
      refine a_i2l (pc := 16) dX12_later_16 ?_
      refine a_lconst (pc := 17) (v := 0) dX12_later_17 (by decide) ?_
      refine a_lconst (pc := 18) (v := 1) dX12_later_18 (by decide) ?_
      refine cs_X12_96 (pc := 19) rfl dX12_later_19 (Nat.le_of_ble_eq_true rfl) ?_
      refine m_within (by omega) hz ?_
      refine a_topi (bI (inR 0 (nI 1) w)) (congrArg bI (inL_R 0 1 (by decide) (by decide) w)) ?_
      refine b_if_ne (pc := 22) (tgt := 27) dX12_later_22 (by decide) (fun c_22 => ?_) (fun c_22 => ?_)
      · obtain ⟨n_w, h_w, rfl⟩ := inR_of (by decide) c_22
        have i_w : iN (nI n_w) = n_w := iN_nI (by omega)
        refine a_aloadn_0 (pc := 27) dX12_later_27 ?_
        refine cv_X12_220 (pc := 28) rfl dX12_later_28 hm.2.2.1 (Nat.le_of_ble_eq_true rfl) ?_
        refine m_begins (by omega) hz hm hb (fun h1 t1 hm1 hv1 => ?_)
        refine a_aloadn_0 (pc := 31) dX12_later_31 ?_
        refine a_iloadn_1 (pc := 32) dX12_later_32 ?_
        refine cv_X12_228 (pc := 33) rfl dX12_later_33 hm1.2.2.1 (Nat.le_of_ble_eq_true rfl) ?_
        refine m_goesHours (by omega) hz hm1 hv1 okv hL (by omega) (fun h2 p2 t2 hm2 hv2 => ?_)
        refine a_iloadn_3 (pc := 36) dX12_later_36 ?_
        refine n_if_ne (tgt := 49) dX12_later_37 (by decide) (by omega) (fun c_37 => ?_) (fun c_37 => ?_)
        · have w0 : n_w = 1 := by omega
          subst w0
          refine a_aloadn_0 (pc := 49) dX12_later_49 ?_
          refine mg_31 hm2 rfl dX12_later_50 ?_
          refine a_iloadn_2 (pc := 53) dX12_later_53 ?_
          refine ml_wax (x := cW ((hrs F n_n v)) n_r) hm2 dX12_later_54 (by omega) (hv2.1 n_r (by omega)).1 ?_
          exact a_iret (pc := 55) dX12_later_55 rfl (zf hz) (hk _ _ _ _ (by simp [spLater, c_4, i_n, c_12, i_r, c_22, i_w]) hm2)
        · subst c_37
          refine a_aloadn_0 (pc := 40) dX12_later_40 ?_
          refine mg_34 hm2 rfl dX12_later_41 ?_
          refine a_iloadn_2 (pc := 44) dX12_later_44 ?_
          refine ml_isDark (x := (cK ((hrs F n_n v)) n_r).toNat) hm2 dX12_later_45 (by omega) (hv2.1 n_r (by omega)).2.1 ?_
          refine a_topi (bI (cK ((hrs F n_n v)) n_r)) (bI_nI _).symm ?_
          refine a_goto (pc := 46) (tgt := 55) dX12_later_46 (by decide) ?_
          exact a_iret (pc := 55) dX12_later_55 rfl (zf hz) (hk _ _ _ _ (by simp [spLater, c_4, i_n, c_12, i_r, c_22, i_w]) hm2)
      · refine a_iconst (pc := 25) (v := (-1)) dX12_later_25 (by decide) ?_
        exact a_iret (pc := 26) dX12_later_26 rfl (zf hz) (hk _ _ _ _ (by simp [spLater, c_4, i_n, c_12, i_r, c_22]) hm)
set_option maxRecDepth 100000 in
set_option maxHeartbeats 4000000 in
theorem m_dark {G : Cx} {d : Nat} {h h0 : List va_E} {b : MB} {p : MP} {t : MT} {o : MO} {Q : Option Value → List va_E → Prop} (hd : 70 ≤ d) (hz : gz G = false) (hm : MS G h0 h (b, p, t, o)) {v : Cv} {F : Lf} (hb : BV (b, p, t, o) v) (okv : okC v) (hL : LM b F) {n w : Int32} (hk : ∀ y h1 p1 t1, y = spDark F v n w → MS G h0 h1 (b, p1, t1, o) → Q (some (.int y)) h1) : AM G yX12_dark cX12_dark 3 (some .int) d 0 0 [.ref (gB G + 80), .int (n), .int (w)] h Q := by
  obtain ⟨d, rfl, he⟩ := dpos hd
  refine AM.of [some (.ref (gB G + 80)), some (.int (n)), some (.int (w))] pnX12 (Nat.le_of_ble_eq_true rfl) (by simp [lsub, lvI, Value.category]) ?_
  refine a_iloadn_1 (pc := 0) dX12_dark_0 ?_
  refine cs_X12_225 (pc := 1) rfl dX12_dark_1 (Nat.le_of_ble_eq_true rfl) ?_
  refine m_areHours (by omega) hz ?_
  refine b_if_eq (pc := 4) (tgt := 17) dX12_dark_4 (by decide) (fun c_4 => ?_) (fun c_4 => ?_)
  · refine a_iconst (pc := 17) (v := (-1)) dX12_dark_17 (by decide) ?_
    exact a_iret (pc := 18) dX12_dark_18 rfl (zf hz) (hk _ _ _ _ (by simp [spDark, c_4]) hm)
  · obtain ⟨n_n, h_n, rfl⟩ := inR_of (by decide) c_4
    have i_n : iN (nI n_n) = n_n := iN_nI (by omega)
    refine a_iloadn_2 (pc := 7) dX12_dark_7 ?_
    refine a_i2l (pc := 8) dX12_dark_8 ?_
    refine a_lconst (pc := 9) (v := 0) dX12_dark_9 (by decide) ?_
    refine a_lconst (pc := 10) (v := 1) dX12_dark_10 (by decide) ?_
    refine cs_X12_96 (pc := 11) rfl dX12_dark_11 (Nat.le_of_ble_eq_true rfl) ?_
    refine m_within (by omega) hz ?_
    refine a_topi (bI (inR 0 (nI 1) w)) (congrArg bI (inL_R 0 1 (by decide) (by decide) w)) ?_
    refine b_if_ne (pc := 14) (tgt := 19) dX12_dark_14 (by decide) (fun c_14 => ?_) (fun c_14 => ?_)
    · obtain ⟨n_w, h_w, rfl⟩ := inR_of (by decide) c_14
      have i_w : iN (nI n_w) = n_w := iN_nI (by omega)
      refine a_aloadn_0 (pc := 19) dX12_dark_19 ?_
      refine cv_X12_220 (pc := 20) rfl dX12_dark_20 hm.2.2.1 (Nat.le_of_ble_eq_true rfl) ?_
      refine m_begins (by omega) hz hm hb (fun h1 t1 hm1 hv1 => ?_)
      refine a_aloadn_0 (pc := 23) dX12_dark_23 ?_
      refine a_iloadn_1 (pc := 24) dX12_dark_24 ?_
      refine cv_X12_228 (pc := 25) rfl dX12_dark_25 hm1.2.2.1 (Nat.le_of_ble_eq_true rfl) ?_
      refine m_goesHours (by omega) hz hm1 hv1 okv hL (by omega) (fun h2 p2 t2 hm2 hv2 => ?_)
      refine a_iloadn_2 (pc := 28) dX12_dark_28 ?_
      refine n_if_ne (tgt := 39) dX12_dark_29 (by decide) (by omega) (fun c_29 => ?_) (fun c_29 => ?_)
      · have w0 : n_w = 1 := by omega
        subst w0
        refine a_aloadn_0 (pc := 39) dX12_dark_39 ?_
        refine cv_X12_235 (pc := 40) rfl dX12_dark_40 hm2.2.2.1 (Nat.le_of_ble_eq_true rfl) ?_
        refine m_darkChildren (by omega) hz hm2 hv2 ?_
        exact a_iret (pc := 43) dX12_dark_43 rfl (zf hz) (hk _ _ _ _ (by simp [spDark, c_4, i_n, c_14, i_w]) hm2)
      · subst c_29
        refine a_aloadn_0 (pc := 32) dX12_dark_32 ?_
        refine cv_X12_232 (pc := 33) rfl dX12_dark_33 hm2.2.2.1 (Nat.le_of_ble_eq_true rfl) ?_
        refine m_darkMany (by omega) hz hm2 hv2 ?_
        refine a_goto (pc := 36) (tgt := 43) dX12_dark_36 (by decide) ?_
        exact a_iret (pc := 43) dX12_dark_43 rfl (zf hz) (hk _ _ _ _ (by simp [spDark, c_4, i_n, c_14, i_w]) hm2)
    · refine a_iconst (pc := 17) (v := (-1)) dX12_dark_17 (by decide) ?_
      exact a_iret (pc := 18) dX12_dark_18 rfl (zf hz) (hk _ _ _ _ (by simp [spDark, c_4, i_n, c_14]) hm)
set_option maxRecDepth 100000 in
set_option maxHeartbeats 4000000 in
theorem m_map {G : Cx} {d : Nat} {h h0 : List va_E} {b : MB} {p : MP} {t : MT} {o : MO} {Q : Option Value → List va_E → Prop} (hd : 70 ≤ d) (hz : gz G = false) (hm : MS G h0 h (b, p, t, o)) {v : Cv} {F : Lf} (hb : BV (b, p, t, o) v) (okv : okC v) (hL : LM b F) {n : Int32} (hk : ∀ y h1 p1 t1, y = spMap F v n → MS G h0 h1 (b, p1, t1, o) → Q (some (.long y)) h1) : AM G yX12_map cX12_map 2 (some .long) d 0 0 [.ref (gB G + 80), .int (n)] h Q := by
  obtain ⟨d, rfl, he⟩ := dpos hd
  refine AM.of [some (.ref (gB G + 80)), some (.int (n))] pnX12 (Nat.le_of_ble_eq_true rfl) (by simp [lsub, lvI, Value.category]) ?_
  refine a_iloadn_1 (pc := 0) dX12_map_0 ?_
  refine cs_X12_225 (pc := 1) rfl dX12_map_1 (Nat.le_of_ble_eq_true rfl) ?_
  refine m_areHours (by omega) hz ?_
  refine b_if_ne (pc := 4) (tgt := 11) dX12_map_4 (by decide) (fun c_4 => ?_) (fun c_4 => ?_)
  · obtain ⟨n_n, h_n, rfl⟩ := inR_of (by decide) c_4
    have i_n : iN (nI n_n) = n_n := iN_nI (by omega)
    refine a_aloadn_0 (pc := 11) dX12_map_11 ?_
    refine cv_X12_220 (pc := 12) rfl dX12_map_12 hm.2.2.1 (Nat.le_of_ble_eq_true rfl) ?_
    refine m_begins (by omega) hz hm hb (fun h1 t1 hm1 hv1 => ?_)
    refine a_aloadn_0 (pc := 15) dX12_map_15 ?_
    refine a_iloadn_1 (pc := 16) dX12_map_16 ?_
    refine cv_X12_228 (pc := 17) rfl dX12_map_17 hm1.2.2.1 (Nat.le_of_ble_eq_true rfl) ?_
    refine m_goesHours (by omega) hz hm1 hv1 okv hL (by omega) (fun h2 p2 t2 hm2 hv2 => ?_)
    refine a_aloadn_0 (pc := 20) dX12_map_20 ?_
    refine cv_X12_242 (pc := 21) rfl dX12_map_21 hm2.2.2.1 (Nat.le_of_ble_eq_true rfl) ?_
    refine m_darkSet (by omega) hz hm2 hv2 ?_
    exact a_lret (pc := 24) dX12_map_24 rfl (zf hz) (hk _ _ _ _ (by simp [spMap, c_4, i_n]) hm2)
  · refine a_ldc2 (pc := 7) dX12_map_7 w_1277 ?_
    exact a_lret (pc := 10) dX12_map_10 rfl (zf hz) (hk _ _ _ _ (by simp [spMap, c_4]) hm)
set_option maxRecDepth 100000 in
set_option maxHeartbeats 4000000 in
theorem m_falls {G : Cx} {d : Nat} {h h0 : List va_E} {b : MB} {p : MP} {t : MT} {o : MO} {Q : Option Value → List va_E → Prop} (hd : 70 ≤ d) (hz : gz G = false) (hm : MS G h0 h (b, p, t, o)) {v : Cv} {F : Lf} (hb : BV (b, p, t, o) v) (okv : okC v) (hL : LM b F) {r : Int32} (hk : ∀ y h1 p1 t1, y = spFalls F v r → MS G h0 h1 (b, p1, t1, o) → Q (some (.int y)) h1) : AM G yX12_falls cX12_falls 3 (some .int) d 0 0 [.ref (gB G + 80), .int (r)] h Q := by
  obtain ⟨d, rfl, he⟩ := dpos hd
  refine AM.of [some (.ref (gB G + 80)), some (.int (r)), none] pnX12 (Nat.le_of_ble_eq_true rfl) (by simp [lsub, lvI, Value.category]) ?_
  refine a_iloadn_1 (pc := 0) dX12_falls_0 ?_
  refine a_i2l (pc := 1) dX12_falls_1 ?_
  refine cs_X12_106 (pc := 2) rfl dX12_falls_2 (Nat.le_of_ble_eq_true rfl) ?_
  refine m_isRoom (by omega) hz ?_
  refine a_topi (bI (inR 0 (nI 35) r)) (congrArg bI (inL_R 0 35 (by decide) (by decide) r)) ?_
  refine b_if_ne (pc := 5) (tgt := 10) dX12_falls_5 (by decide) (fun c_5 => ?_) (fun c_5 => ?_)
  · obtain ⟨n_r, h_r, rfl⟩ := inR_of (by decide) c_5
    have i_r : iN (nI n_r) = n_r := iN_nI (by omega)
    refine a_aloadn_0 (pc := 10) dX12_falls_10 ?_
    refine cv_X12_220 (pc := 11) rfl dX12_falls_11 hm.2.2.1 (Nat.le_of_ble_eq_true rfl) ?_
    refine m_begins (by omega) hz hm hb (fun h1 t1 hm1 hv1 => ?_)
    refine a_iconst (pc := 14) (v := nI 0) dX12_falls_14 (by decide) ?_
    refine a_istoren_2 (pc := 15) dX12_falls_15 (by decide) (by first | rfl | trivial) ?_
    obtain ⟨P, hP⟩ : ∃ P : Nat → Bool, P = fun n => cK (hrs F n v) n_r := ⟨_, rfl⟩
    obtain ⟨S, hSS⟩ : ∃ S, S = fsrch P 49 0 := ⟨_, rfl⟩
    have hk : ∀ y h1 p1 t1, y = S → MS G h0 h1 (b, p1, t1, o) → Q (some (.int y)) h1 := fun y h1 p1 t1 e => hk y h1 p1 t1 (by rw [e, hSS, hP]; simp [spFalls, c_5, i_r])
    have hPe : ∀ i, P i = cK (hrs F i v) n_r := fun i => by rw [hP]
    have lp : ∀ (n : Nat) (i : Nat) (h1 : List va_E) (p1 : MP) (t1 : MT), 49 - i < n → (i ≤ 49) → (fsrch P (49 - i) i = S) → (MS G h0 h1 (b, p1, t1, o)) → (HV (b, p1, t1, o) (hrs F i v)) → AW G yX12_falls cX12_falls 3 (some .int) (rmx (d + 1) 0 0) (ZQ G 0 0 (h.length + 0) Q) 0 0 16 [some (.ref (gB G + 80)), some (.int (nI (n_r))), some (.int (nI (i)))] [] h1 := by
      intro n
      induction n with
      | zero => intro i h1 p1 t1 hn; exact absurd hn (Nat.not_lt_zero _)
      | succ n ih =>
        intro i h1 p1 t1 hn hi hS hm1 hv1
        refine a_iloadn_2 (pc := 16) dX12_falls_16 ?_
        refine a_bipush (pc := 17) (v := nI 48) dX12_falls_17 (by decide) ?_
        refine n_icmp_gt (tgt := 44) dX12_falls_19 (by decide) (by omega) (by decide) (fun c_19 => ?_) (fun c_19 => ?_)
        · refine a_bipush (pc := 44) (v := (-2)) dX12_falls_44 (by decide) ?_
          exact a_iret (pc := 46) dX12_falls_46 rfl (zf hz) (hk _ _ _ _ (by rw [← hS]; exact (fs_end (by omega)).symm) hm1)
        · refine a_aloadn_0 (pc := 22) dX12_falls_22 ?_
          refine mg_34 hm1 rfl dX12_falls_23 ?_
          refine a_iloadn_1 (pc := 26) dX12_falls_26 ?_
          refine ml_isDark (x := (cK ((hrs F i v)) n_r).toNat) hm1 dX12_falls_27 (by omega) (hv1.1 n_r (by omega)).2.1 ?_
          refine a_topi (bI (cK ((hrs F i v)) n_r)) (bI_nI _).symm ?_
          refine a_iconst (pc := 28) (v := nI 1) dX12_falls_28 (by decide) ?_
          refine b1_icmp_ne (tgt := 34) dX12_falls_29 (by decide) (fun c_29 => ?_) (fun c_29 => ?_)
          · refine a_aloadn_0 (pc := 34) dX12_falls_34 ?_
            refine cv_X12_217 (pc := 35) rfl dX12_falls_35 hm1.2.2.1 (Nat.le_of_ble_eq_true rfl) ?_
            refine m_goesHour (by omega) hz hm1 hv1 ((okC_hrs okv i)) hL (fun h4 p4 t4 hm4 hv4 hl4 => ?_)
            refine a_iinc_2 (pc := 38) (v := nI (i + 1)) dX12_falls_38 (nI_add _ _) (by decide) (by first | rfl | trivial) ?_
            refine a_goto (pc := 41) (tgt := 16) dX12_falls_41 (by decide) ?_
            exact ih (i + 1) _ _ _ (by omega) (by omega) (by rw [← hS]; exact (fs_miss (by omega) ((hPe i).trans c_29)).symm) hm4 hv4
          · refine a_iloadn_2 (pc := 32) dX12_falls_32 ?_
            exact a_iret (pc := 33) dX12_falls_33 rfl (zf hz) (hk _ _ _ _ (by rw [← hS]; exact (fs_hit (by omega) ((hPe i).trans c_29)).symm) hm1)
    exact lp 50 0 _ _ _ (by omega) (by omega) hSS.symm hm1 hv1
  · refine a_iconst (pc := 8) (v := (-1)) dX12_falls_8 (by decide) ?_
    exact a_iret (pc := 9) dX12_falls_9 rfl (zf hz) (hk _ _ _ _ (by simp [spFalls, c_5]) hm)
set_option maxRecDepth 100000 in
set_option maxHeartbeats 4000000 in
theorem m_still {G : Cx} {d : Nat} {h h0 : List va_E} {b : MB} {p : MP} {t : MT} {o : MO} {Q : Option Value → List va_E → Prop} (hd : 70 ≤ d) (hz : gz G = false) (hm : MS G h0 h (b, p, t, o)) {v : Cv} {F : Lf} (hb : BV (b, p, t, o) v) (okv : okC v) (hL : LM b F) (hk : ∀ y h1 p1 t1, y = spStill F v → MS G h0 h1 (b, p1, t1, o) → Q (some (.int y)) h1) : AM G yX12_still cX12_still 4 (some .int) d 0 0 [.ref (gB G + 80)] h Q := by
  obtain ⟨d, rfl, he⟩ := dpos hd
  refine AM.of [some (.ref (gB G + 80)), none, none, none] pnX12 (Nat.le_of_ble_eq_true rfl) (by simp [lsub, lvI, Value.category]) ?_
  refine a_aloadn_0 (pc := 0) dX12_still_0 ?_
  refine cv_X12_220 (pc := 1) rfl dX12_still_1 hm.2.2.1 (Nat.le_of_ble_eq_true rfl) ?_
  refine m_begins (by omega) hz hm hb (fun h1 t1 hm1 hv1 => ?_)
  refine a_iconst (pc := 4) (v := nI 0) dX12_still_4 (by decide) ?_
  refine a_istoren_1 (pc := 5) dX12_still_5 (by decide) (by first | rfl | trivial) ?_
  obtain ⟨P, hP⟩ : ∃ P : Nat → Bool, P = fun n => decide (bL (cK (hrs F (n + 1) v)) = bL (cK (hrs F n v))) := ⟨_, rfl⟩
  obtain ⟨S, hSS⟩ : ∃ S, S = fsrch P 49 0 := ⟨_, rfl⟩
  have hk : ∀ y h1 p1 t1, y = S → MS G h0 h1 (b, p1, t1, o) → Q (some (.int y)) h1 := fun y h1 p1 t1 e => hk y h1 p1 t1 (by rw [e, hSS, hP]; rfl)
  have hPe : ∀ i, P i = decide (bL (cK (hrs F (i + 1) v)) = bL (cK (hrs F i v))) := fun i => by rw [hP]
  have lp : ∀ (n : Nat) (i : Nat) (h1 : List va_E) (p1 : MP) (t1 : MT), 49 - i < n → (i ≤ 49) → (fsrch P (49 - i) i = S) → (MS G h0 h1 (b, p1, t1, o)) → (HV (b, p1, t1, o) (hrs F i v)) → AW G yX12_still cX12_still 4 (some .int) (rmx (d + 1) 0 0) (ZQ G 0 0 (h.length + 0) Q) 0 0 6 [some (.ref (gB G + 80)), some (.int (nI (i))), none, none] [] h1 := by
    intro n
    induction n with
    | zero => intro i h1 p1 t1 hn; exact absurd hn (Nat.not_lt_zero _)
    | succ n ih =>
      intro i h1 p1 t1 hn hi hS hm1 hv1
      refine a_iloadn_1 (pc := 6) dX12_still_6 ?_
      refine a_bipush (pc := 7) (v := nI 48) dX12_still_7 (by decide) ?_
      refine n_icmp_gt (tgt := 38) dX12_still_9 (by decide) (by omega) (by decide) (fun c_9 => ?_) (fun c_9 => ?_)
      · refine a_bipush (pc := 38) (v := (-2)) dX12_still_38 (by decide) ?_
        exact a_iret (pc := 40) dX12_still_40 rfl (zf hz) (hk _ _ _ _ (by rw [← hS]; exact (fs_end (by omega)).symm) hm1)
      · refine a_aloadn_0 (pc := 12) dX12_still_12 ?_
        refine cv_X12_242 (pc := 13) rfl dX12_still_13 hm1.2.2.1 (Nat.le_of_ble_eq_true rfl) ?_
        refine m_darkSet (by omega) hz hm1 hv1 ?_
        refine a_lstoren_2 (pc := 16) dX12_still_16 (by decide) (by first | rfl | trivial) ?_
        refine a_aloadn_0 (pc := 17) dX12_still_17 ?_
        refine cv_X12_217 (pc := 18) rfl dX12_still_18 hm1.2.2.1 (Nat.le_of_ble_eq_true rfl) ?_
        refine m_goesHour (by omega) hz hm1 hv1 ((okC_hrs okv i)) hL (fun h4 p4 t4 hm4 hv4 hl4 => ?_)
        refine a_aloadn_0 (pc := 21) dX12_still_21 ?_
        refine cv_X12_242 (pc := 22) rfl dX12_still_22 hm4.2.2.1 (Nat.le_of_ble_eq_true rfl) ?_
        refine m_darkSet (by omega) hz hm4 hv4 ?_
        refine a_lloadn_2 (pc := 25) dX12_still_25 ?_
        refine a_lcmp (pc := 26) dX12_still_26 ?_
        refine a_if_ne (pc := 27) (tgt := 32) dX12_still_27 (by decide) (fun c_27 => ?_) (fun c_27 => ?_)
        · rw [lg_cmp0] at c_27
          refine a_iinc_1 (pc := 32) (v := nI (i + 1)) dX12_still_32 (nI_add _ _) (by decide) (by first | rfl | trivial) ?_
          refine a_goto (pc := 35) (tgt := 6) dX12_still_35 (by decide) ?_
          refine a_ls (ls' := [some _, some _, none, none, none]) ⟨rfl, rfl, trivial⟩ ?_
          exact ih (i + 1) _ _ _ (by omega) (by omega) (by rw [← hS]; exact (fs_miss (by omega) ((hPe i).trans (decide_eq_false c_27))).symm) hm4 hv4
        · rw [lg_cmp0] at c_27
          refine a_iloadn_1 (pc := 30) dX12_still_30 ?_
          exact a_iret (pc := 31) dX12_still_31 rfl (zf hz) (hk _ _ _ _ (by rw [← hS]; exact (fs_hit (by omega) ((hPe i).trans (decide_eq_true c_27))).symm) hm4)
  exact lp 50 0 _ _ _ (by omega) (by omega) hSS.symm hm1 hv1
set_option maxRecDepth 100000 in
set_option maxHeartbeats 4000000 in
theorem m_holdsWith {G : Cx} {d : Nat} {h h0 : List va_E} {b : MB} {p : MP} {t : MT} {o : MO} {Q : Option Value → List va_E → Prop} (hd : 70 ≤ d) (hz : gz G = false) (hm : MS G h0 h (b, p, t, o)) {v : Cv} {F : Lf} (hb : BV (b, p, t, o) v) (okv : okC v) (hL : LM b F) {r w m : Nat} (hr : r < 36) (hw : w ≤ 99) (hm9 : m < 1000) (k : ∀ y h1 p1 t1, y = alive F r (csW v r w) m → MS G h0 h1 (b, p1, t1, o) → Q (some (.int (bI y))) h1) : AM G yX12_holdsWith cX12_holdsWith 6 (some .boolean) d 0 0 [.ref (gB G + 80), .int (nI (r)), .int (nI (w)), .int (nI (m))] h Q := by
  obtain ⟨d, rfl, he⟩ := dpos hd
  obtain ⟨u, hu⟩ : ∃ u, u = csW v r w := ⟨_, rfl⟩
  rw [← hu] at k
  have oku : okC u := by rw [hu]; exact okC_W okv hr hw
  have lp : ∀ (n i : Nat) (h1 : List va_E) (p1 : MP) (t1 : MT) (is : Bool), m - i < n → i ≤ m → is = alive F r u i → MS G h0 h1 (b, p1, t1, o) → HV (b, p1, t1, o) (hrs F i u) → AW G yX12_holdsWith cX12_holdsWith 6 (some .boolean) (rmx (d + 1) 0 0) (ZQ G 0 0 (h.length + 0) Q) 0 0 30 [some (.ref (gB G + 80)), some (.int (nI (r))), some (.int (nI (w))), some (.int (nI (m))), some (.int (bI (is))), some (.int (nI (i)))] [] h1 := by
    intro n
    induction n with
    | zero => intro i h1 p1 t1 is hn; exact absurd hn (Nat.not_lt_zero _)
    | succ n ih =>
      intro i h1 p1 t1 is hn hi hS hm1 hv1
      refine a_iload_5 (pc := 30) dX12_holdsWith_30 ?_
      refine a_iloadn_3 (pc := 32) dX12_holdsWith_32 ?_
      refine n_icmp_ge (tgt := 67) dX12_holdsWith_33 (by decide) (by omega) (by omega) (fun c_33 => ?_) (fun c_33 => ?_)
      · refine a_iload_4 (pc := 67) dX12_holdsWith_67 ?_
        exact a_zret (pc := 69) dX12_holdsWith_69 rfl (by first | rfl | exact bI_nar _ | decide) (zf hz) (k _ _ _ _ (by rw [hS, show i = m by omega]) hm1)
      · refine a_iload_4 (pc := 36) dX12_holdsWith_36 ?_
        refine b_if_eq (pc := 38) (tgt := 67) dX12_holdsWith_38 (by decide) (fun c_38 => ?_) (fun c_38 => ?_)
        · refine a_iload_4 (pc := 67) dX12_holdsWith_67 ?_
          exact a_zret (pc := 69) dX12_holdsWith_69 rfl (by first | rfl | exact bI_nar _ | decide) (zf hz) (k _ _ _ _ (by rw [hS] at c_38 ⊢; rw [c_38, alive_mono c_38 m (by omega)]) hm1)
        · refine a_aloadn_0 (pc := 41) dX12_holdsWith_41 ?_
          refine cv_X12_217 (pc := 42) rfl dX12_holdsWith_42 hm1.2.2.1 (Nat.le_of_ble_eq_true rfl) ?_
          refine m_goesHour (by omega) hz hm1 hv1 ((okC_hrs oku i)) hL (fun h4 p4 t4 hm4 hv4 hl4 => ?_)
          refine a_aloadn_0 (pc := 45) dX12_holdsWith_45 ?_
          refine mg_34 hm4 rfl dX12_holdsWith_46 ?_
          refine a_iloadn_1 (pc := 49) dX12_holdsWith_49 ?_
          refine ml_isDark (x := (cK ((hrs F (i + 1) u)) r).toNat) hm4 dX12_holdsWith_50 (by omega) (hv4.1 r (by omega)).2.1 ?_
          refine a_topi (bI (cK ((hrs F (i + 1) u)) r)) (bI_nI _).symm ?_
          refine b_if_ne (pc := 51) (tgt := 58) dX12_holdsWith_51 (by decide) (fun c_51 => ?_) (fun c_51 => ?_)
          · refine a_iconst (pc := 58) (v := nI 0) dX12_holdsWith_58 (by decide) ?_
            refine a_topi (bI false) (by decide) ?_
            refine a_istore_4 (pc := 59) dX12_holdsWith_59 (by decide) (by first | rfl | trivial) ?_
            refine a_iinc_5 (pc := 61) (v := nI (i + 1)) dX12_holdsWith_61 (nI_add _ _) (by decide) (by first | rfl | trivial) ?_
            refine a_goto (pc := 64) (tgt := 30) dX12_holdsWith_64 (by decide) ?_
            exact ih (i + 1) _ _ _ _ (by omega) (by omega) (by rw [alive, c_51]; simp) hm4 hv4
          · refine a_iconst (pc := 54) (v := nI 1) dX12_holdsWith_54 (by decide) ?_
            refine a_goto (pc := 55) (tgt := 59) dX12_holdsWith_55 (by decide) ?_
            refine a_topi (bI true) (by decide) ?_
            refine a_istore_4 (pc := 59) dX12_holdsWith_59 (by decide) (by first | rfl | trivial) ?_
            refine a_iinc_5 (pc := 61) (v := nI (i + 1)) dX12_holdsWith_61 (nI_add _ _) (by decide) (by first | rfl | trivial) ?_
            refine a_goto (pc := 64) (tgt := 30) dX12_holdsWith_64 (by decide) ?_
            exact ih (i + 1) _ _ _ _ (by omega) (by omega) (by rw [alive, c_51, ← hS, c_38]; rfl) hm4 hv4
  refine AM.of [some (.ref (gB G + 80)), some (.int (nI (r))), some (.int (nI (w))), some (.int (nI (m))), none, none] pnX12 (Nat.le_of_ble_eq_true rfl) (by simp [lsub, lvI, Value.category]) ?_
  refine a_aloadn_0 (pc := 0) dX12_holdsWith_0 ?_
  refine cv_X12_220 (pc := 1) rfl dX12_holdsWith_1 hm.2.2.1 (Nat.le_of_ble_eq_true rfl) ?_
  refine m_begins (by omega) hz hm hb (fun h1 t1 hm1 hv1 => ?_)
  refine a_aloadn_0 (pc := 4) dX12_holdsWith_4 ?_
  refine mg_31 hm1 rfl dX12_holdsWith_5 ?_
  refine a_iloadn_1 (pc := 8) dX12_holdsWith_8 ?_
  refine a_iloadn_2 (pc := 9) dX12_holdsWith_9 ?_
  refine ms_wax (j := r) (x := w) hm1 dX12_holdsWith_10 (by omega) (fun h2 hm2 => ?_)
  have hvu : HV (sWax (b, p, t1, o) (va_up (mWax (b, p, t1, o)) r w)) u := by rw [hu]; exact HV_W hv1
  refine a_aloadn_0 (pc := 11) dX12_holdsWith_11 ?_
  refine mg_34 hm2 rfl dX12_holdsWith_12 ?_
  refine a_iloadn_1 (pc := 15) dX12_holdsWith_15 ?_
  refine ml_isDark (x := (cK v r).toNat) hm2 dX12_holdsWith_16 (by omega) (hv1.1 r (by omega)).2.1 ?_
  refine a_topi (bI (cK v r)) (bI_nI _).symm ?_
  refine b_if_ne (pc := 17) (tgt := 24) dX12_holdsWith_17 (by decide) (fun c_17 => ?_) (fun c_17 => ?_)
  · refine a_iconst (pc := 24) (v := nI 0) dX12_holdsWith_24 (by decide) ?_
    refine a_topi (bI false) (by decide) ?_
    refine a_istore_4 (pc := 25) dX12_holdsWith_25 (by decide) (by first | rfl | trivial) ?_
    refine a_iconst (pc := 27) (v := nI 0) dX12_holdsWith_27 (by decide) ?_
    refine a_istore_5 (pc := 28) dX12_holdsWith_28 (by decide) (by first | rfl | trivial) ?_
    exact lp (m + 1) 0 _ _ _ _ (by omega) (by omega) (by rw [alive, hu]; show _ = !cK v r; rw [c_17]; rfl) hm2 hvu
  · refine a_iconst (pc := 20) (v := nI 1) dX12_holdsWith_20 (by decide) ?_
    refine a_goto (pc := 21) (tgt := 25) dX12_holdsWith_21 (by decide) ?_
    refine a_topi (bI true) (by decide) ?_
    refine a_istore_4 (pc := 25) dX12_holdsWith_25 (by decide) (by first | rfl | trivial) ?_
    refine a_iconst (pc := 27) (v := nI 0) dX12_holdsWith_27 (by decide) ?_
    refine a_istore_5 (pc := 28) dX12_holdsWith_28 (by decide) (by first | rfl | trivial) ?_
    exact lp (m + 1) 0 _ _ _ _ (by omega) (by omega) (by rw [alive, hu]; show _ = !cK v r; rw [c_17]; rfl) hm2 hvu
set_option maxRecDepth 100000 in
set_option maxHeartbeats 4000000 in
theorem m_enough {G : Cx} {d : Nat} {h h0 : List va_E} {b : MB} {p : MP} {t : MT} {o : MO} {Q : Option Value → List va_E → Prop} (hd : 72 ≤ d) (hz : gz G = false) (hm : MS G h0 h (b, p, t, o)) {v : Cv} {F : Lf} (hb : BV (b, p, t, o) v) (okv : okC v) (hL : LM b F) {r tt : Int32} (hk : ∀ y h1 p1 t1, y = spEnough F v r tt → MS G h0 h1 (b, p1, t1, o) → Q (some (.int y)) h1) : AM G yX12_enough cX12_enough 4 (some .int) d 0 0 [.ref (gB G + 80), .int (r), .int (tt)] h Q := by
  obtain ⟨d, rfl, he⟩ := dpos hd
  refine AM.of [some (.ref (gB G + 80)), some (.int (r)), some (.int (tt)), none] pnX12 (Nat.le_of_ble_eq_true rfl) (by simp [lsub, lvI, Value.category]) ?_
  refine a_iloadn_1 (pc := 0) dX12_enough_0 ?_
  refine a_i2l (pc := 1) dX12_enough_1 ?_
  refine cs_X12_106 (pc := 2) rfl dX12_enough_2 (Nat.le_of_ble_eq_true rfl) ?_
  refine m_isRoom (by omega) hz ?_
  refine a_topi (bI (inR 0 (nI 35) r)) (congrArg bI (inL_R 0 35 (by decide) (by decide) r)) ?_
  refine b_if_eq (pc := 5) (tgt := 20) dX12_enough_5 (by decide) (fun c_5 => ?_) (fun c_5 => ?_)
  · refine a_iconst (pc := 20) (v := (-1)) dX12_enough_20 (by decide) ?_
    exact a_iret (pc := 21) dX12_enough_21 rfl (zf hz) (hk _ _ _ _ (by simp [spEnough, c_5]) hm)
  · obtain ⟨n_r, h_r, rfl⟩ := inR_of (by decide) c_5
    have i_r : iN (nI n_r) = n_r := iN_nI (by omega)
    refine a_iloadn_2 (pc := 8) dX12_enough_8 ?_
    refine a_i2l (pc := 9) dX12_enough_9 ?_
    refine a_lconst (pc := 10) (v := 0) dX12_enough_10 (by decide) ?_
    refine a_ldc2 (pc := 11) dX12_enough_11 w_1294 ?_
    refine cs_X12_96 (pc := 14) rfl dX12_enough_14 (Nat.le_of_ble_eq_true rfl) ?_
    refine m_within (by omega) hz ?_
    refine a_topi (bI (inR 0 (nI 24) tt)) (congrArg bI (inL_R 0 24 (by decide) (by decide) tt)) ?_
    refine b_if_ne (pc := 17) (tgt := 22) dX12_enough_17 (by decide) (fun c_17 => ?_) (fun c_17 => ?_)
    · obtain ⟨n_tt, h_tt, rfl⟩ := inR_of (by decide) c_17
      have i_tt : iN (nI n_tt) = n_tt := iN_nI (by omega)
      refine a_iconst (pc := 22) (v := nI 0) dX12_enough_22 (by decide) ?_
      refine a_istoren_3 (pc := 23) dX12_enough_23 (by decide) (by first | rfl | trivial) ?_
      obtain ⟨P, hP⟩ : ∃ P : Nat → Bool, P = fun w => alive F n_r (csW v n_r w) n_tt := ⟨_, rfl⟩
      obtain ⟨S, hSS⟩ : ∃ S, S = fsrch P 100 0 := ⟨_, rfl⟩
      have hk : ∀ y h1 p1 t1, y = S → MS G h0 h1 (b, p1, t1, o) → Q (some (.int y)) h1 := fun y h1 p1 t1 e => hk y h1 p1 t1 (by rw [e, hSS, hP]; simp [spEnough, c_5, i_r, c_17, i_tt])
      have hPe : ∀ i, P i = alive F n_r (csW v n_r i) n_tt := fun i => by rw [hP]
      have lp : ∀ (n : Nat) (i : Nat) (h1 : List va_E) (p1 : MP) (t1 : MT), 100 - i < n → (i ≤ 100) → (fsrch P (100 - i) i = S) → (MS G h0 h1 (b, p1, t1, o)) → AW G yX12_enough cX12_enough 4 (some .int) (rmx (d + 1) 0 0) (ZQ G 0 0 (h.length + 0) Q) 0 0 24 [some (.ref (gB G + 80)), some (.int (nI (n_r))), some (.int (nI (n_tt))), some (.int (nI (i)))] [] h1 := by
        intro n
        induction n with
        | zero => intro i h1 p1 t1 hn; exact absurd hn (Nat.not_lt_zero _)
        | succ n ih =>
          intro i h1 p1 t1 hn hi hS hm1
          refine a_iloadn_3 (pc := 24) dX12_enough_24 ?_
          refine a_bipush (pc := 25) (v := nI 99) dX12_enough_25 (by decide) ?_
          refine n_icmp_gt (tgt := 48) dX12_enough_27 (by decide) (by omega) (by decide) (fun c_27 => ?_) (fun c_27 => ?_)
          · refine a_bipush (pc := 48) (v := (-2)) dX12_enough_48 (by decide) ?_
            exact a_iret (pc := 50) dX12_enough_50 rfl (zf hz) (hk _ _ _ _ (by rw [← hS]; exact (fs_end (by omega)).symm) hm1)
          · refine a_aloadn_0 (pc := 30) dX12_enough_30 ?_
            refine a_iloadn_1 (pc := 31) dX12_enough_31 ?_
            refine a_iloadn_3 (pc := 32) dX12_enough_32 ?_
            refine a_iloadn_2 (pc := 33) dX12_enough_33 ?_
            refine cv_X12_248 (pc := 34) rfl dX12_enough_34 hm1.2.2.1 (Nat.le_of_ble_eq_true rfl) ?_
            refine m_holdsWith (by omega) hz hm1 hb okv hL (by omega) (by omega) (by omega) (fun y6 h6 p6 t6 hy6 hm6 => ?_)
            refine b_if_eq (pc := 37) (tgt := 42) dX12_enough_37 (by decide) (fun c_37 => ?_) (fun c_37 => ?_)
            · refine a_iinc_3 (pc := 42) (v := nI (i + 1)) dX12_enough_42 (nI_add _ _) (by decide) (by first | rfl | trivial) ?_
              refine a_goto (pc := 45) (tgt := 24) dX12_enough_45 (by decide) ?_
              exact ih (i + 1) _ _ _ (by omega) (by omega) (by rw [← hS]; exact (fs_miss (by omega) ((hPe i).trans (hy6.symm.trans c_37))).symm) hm6
            · refine a_iloadn_3 (pc := 40) dX12_enough_40 ?_
              exact a_iret (pc := 41) dX12_enough_41 rfl (zf hz) (hk _ _ _ _ (by rw [← hS]; exact (fs_hit (by omega) ((hPe i).trans (hy6.symm.trans c_37))).symm) hm6)
      exact lp 101 0 _ _ _ (by omega) (by omega) hSS.symm hm
    · refine a_iconst (pc := 20) (v := (-1)) dX12_enough_20 (by decide) ?_
      exact a_iret (pc := 21) dX12_enough_21 rfl (zf hz) (hk _ _ _ _ (by simp [spEnough, c_5, i_r, c_17]) hm)
