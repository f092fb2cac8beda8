/-! SAUCERS: 62, its rows 63 and 64 -/
theorem pnX5 : plainName RX5 = true := by decide
abbrev Su : Type := (Nat → Nat) × Nat × Nat × Nat
/-- kinds, size, self, its kind; the trace -/
def SU (G : Cx) (h0 h : List va_E) (a : Su) (s : Rn) : Prop := h.length = h0.length ∧ (∀ k, (k < 62 ∨ 64 < k) → h[k]? = h0[k]?) ∧ h[62]? = some (.inr (5, [.ref (gB G + 63), .ref (gB G + 64), .int (nI a.2.1), .int (nI s.2), .int (nI a.2.2.1), .int (nI a.2.2.2)])) ∧ h[63]? = some (ints G 50 a.1) ∧ h[64]? = some (ints G 24 s.1)
section SUs
variable {G : Cx} {h0 h : List va_E} {a : Su} {s : Rn}
theorem SU.ob (H : SU G h0 h a s) : h[62]? = some (.inr (5, [.ref (gB G + 63), .ref (gB G + 64), .int (nI a.2.1), .int (nI s.2), .int (nI a.2.2.1), .int (nI a.2.2.2)])) := H.2.2.1
theorem SU.so (H : SU G h0 h a s) (sz r sf sk : Nat) : SU G h0 (h.set 62 (.inr (5, [.ref (gB G + 63), .ref (gB G + 64), .int (nI sz), .int (nI r), .int (nI sf), .int (nI sk)]))) (a.1, sz, sf, sk) (s.1, r) :=
  ⟨by rw [List.length_set]; exact H.1, fun k hk => hs_ne (by omega) (H.2.1 k hk), hs_eq H.2.2.1, hs_ne (by decide) H.2.2.2.1, hs_ne (by decide) H.2.2.2.2⟩
end SUs
section SUr
variable {G : Cx} {y : MethodName} {cc : ByteArray} {mL : Nat} {rt : Option FieldType} {R : Room} {Z : List Frame → Array Value → State → State → Prop} {cn sn pc : Nat} {ls : List (Option Value)} {st : List Value} {h h0 : List va_E} {a : Su} {s : Rn}
theorem kg_18 {x : Nat} (hm : SU G h0 h a s) (ho : y.cls = RX5) (hd : decode cc pc = .ok (.getfield 18, 3)) (e : a.2.1 = x) (kk : AW G y cc mL rt R Z cn sn (pc + 3) ls (.int (nI x) :: st) h) : AW G y cc mL rt R Z cn sn pc ls (.ref (gB G + 62) :: st) h :=
  gf_X5_18 ho hd hm.ob (by rw [e]; exact kk)
theorem kg_29 {x : Nat} (hm : SU G h0 h a s) (ho : y.cls = RX5) (hd : decode cc pc = .ok (.getfield 29, 3)) (e : s.2 = x) (kk : AW G y cc mL rt R Z cn sn (pc + 3) ls (.int (nI x) :: st) h) : AW G y cc mL rt R Z cn sn pc ls (.ref (gB G + 62) :: st) h :=
  gf_X5_29 ho hd hm.ob (by rw [e]; exact kk)
theorem kg_38 {x : Nat} (hm : SU G h0 h a s) (ho : y.cls = RX5) (hd : decode cc pc = .ok (.getfield 38, 3)) (e : a.2.2.1 = x) (kk : AW G y cc mL rt R Z cn sn (pc + 3) ls (.int (nI x) :: st) h) : AW G y cc mL rt R Z cn sn pc ls (.ref (gB G + 62) :: st) h :=
  gf_X5_38 ho hd hm.ob (by rw [e]; exact kk)
theorem kg_41 {x : Nat} (hm : SU G h0 h a s) (ho : y.cls = RX5) (hd : decode cc pc = .ok (.getfield 41, 3)) (e : a.2.2.2 = x) (kk : AW G y cc mL rt R Z cn sn (pc + 3) ls (.int (nI x) :: st) h) : AW G y cc mL rt R Z cn sn pc ls (.ref (gB G + 62) :: st) h :=
  gf_X5_41 ho hd hm.ob (by rw [e]; exact kk)
theorem kg_9 (hm : SU G h0 h a s) (ho : y.cls = RX5) (hd : decode cc pc = .ok (.getfield 9, 3)) (kk : AW G y cc mL rt R Z cn sn (pc + 3) ls (.ref (gB G + 63) :: st) h) : AW G y cc mL rt R Z cn sn pc ls (.ref (gB G + 62) :: st) h :=
  gf_X5_9 ho hd hm.ob kk
theorem kg_15 (hm : SU G h0 h a s) (ho : y.cls = RX5) (hd : decode cc pc = .ok (.getfield 15, 3)) (kk : AW G y cc mL rt R Z cn sn (pc + 3) ls (.ref (gB G + 64) :: st) h) : AW G y cc mL rt R Z cn sn pc ls (.ref (gB G + 62) :: st) h :=
  gf_X5_15 ho hd hm.ob kk
theorem kp_18 {x : Nat} (hm : SU G h0 h a s) (ho : y.cls = RX5) (hd : decode cc pc = .ok (.putfield 18, 3)) (kk : ∀ h1, SU G h0 h1 (a.1, x, a.2.2.1, a.2.2.2) s → AW G y cc mL rt R Z cn sn (pc + 3) ls st h1) : AW G y cc mL rt R Z cn sn pc ls (.int (nI x) :: .ref (gB G + 62) :: st) h :=
  pf_X5_18 ho hd hm.ob (kk _ (hm.so _ _ _ _))
theorem kp_29 {x : Nat} (hm : SU G h0 h a s) (ho : y.cls = RX5) (hd : decode cc pc = .ok (.putfield 29, 3)) (kk : ∀ h1, SU G h0 h1 a (s.1, x) → AW G y cc mL rt R Z cn sn (pc + 3) ls st h1) : AW G y cc mL rt R Z cn sn pc ls (.int (nI x) :: .ref (gB G + 62) :: st) h :=
  pf_X5_29 ho hd hm.ob (kk _ (hm.so _ _ _ _))
theorem kp_38 {x : Nat} (hm : SU G h0 h a s) (ho : y.cls = RX5) (hd : decode cc pc = .ok (.putfield 38, 3)) (kk : ∀ h1, SU G h0 h1 (a.1, a.2.1, x, a.2.2.2) s → AW G y cc mL rt R Z cn sn (pc + 3) ls st h1) : AW G y cc mL rt R Z cn sn pc ls (.int (nI x) :: .ref (gB G + 62) :: st) h :=
  pf_X5_38 ho hd hm.ob (kk _ (hm.so _ _ _ _))
theorem kp_41 {x : Nat} (hm : SU G h0 h a s) (ho : y.cls = RX5) (hd : decode cc pc = .ok (.putfield 41, 3)) (kk : ∀ h1, SU G h0 h1 (a.1, a.2.1, a.2.2.1, x) s → AW G y cc mL rt R Z cn sn (pc + 3) ls st h1) : AW G y cc mL rt R Z cn sn pc ls (.int (nI x) :: .ref (gB G + 62) :: st) h :=
  pf_X5_41 ho hd hm.ob (kk _ (hm.so _ _ _ _))
theorem kl_kinds {j x : Nat} (hm : SU G h0 h a s) (hd : decode cc pc = .ok (.iaload, 1)) (hj : j < 50) (e : a.1 j = x) (kk : AW G y cc mL rt R Z cn sn (pc + 1) ls (.int (nI x) :: st) h) : AW G y cc mL rt R Z cn sn pc ls (.int (nI j) :: .ref (gB G + 63) :: st) h :=
  b_iald j hd hm.2.2.2.1 rfl hj (by decide) (by rw [e]; exact kk)
theorem ks_kinds {j x : Nat} (hm : SU G h0 h a s) (hd : decode cc pc = .ok (.iastore, 1)) (hj : j < 50) (kk : ∀ h1, SU G h0 h1 (va_up a.1 j x, a.2) s → AW G y cc mL rt R Z cn sn (pc + 1) ls st h1) : AW G y cc mL rt R Z cn sn pc ls (.int (nI x) :: .int (nI j) :: .ref (gB G + 63) :: st) h := by
  refine b_iast j hd hm.2.2.2.1 rfl hj (by decide) ?_
  refine a_h (congrArg (fun e => h.set 63 e) (show _ = (ints G 50 (va_up (a.1) j x) : va_E) from ?_)) (kk _ ⟨by rw [List.length_set]; exact hm.1, fun k hk => hs_ne (by omega) (hm.2.1 k hk), hs_ne (by decide) hm.2.2.1, hs_eq hm.2.2.2.1, hs_ne (by decide) hm.2.2.2.2⟩)
  exact congrArg (fun g : Nat → Int32 => (show va_E from .inl (gc G 0, 50, .inl g))) (upd_nI _ _ _)
theorem kl_trace {j x : Nat} (hm : SU G h0 h a s) (hd : decode cc pc = .ok (.iaload, 1)) (hj : j < 24) (e : s.1 j = x) (kk : AW G y cc mL rt R Z cn sn (pc + 1) ls (.int (nI x) :: st) h) : AW G y cc mL rt R Z cn sn pc ls (.int (nI j) :: .ref (gB G + 64) :: st) h :=
  b_iald j hd hm.2.2.2.2 rfl hj (by decide) (by rw [e]; exact kk)
theorem ks_trace {j x : Nat} (hm : SU G h0 h a s) (hd : decode cc pc = .ok (.iastore, 1)) (hj : j < 24) (kk : ∀ h1, SU G h0 h1 a (va_up s.1 j x, s.2) → AW G y cc mL rt R Z cn sn (pc + 1) ls st h1) : AW G y cc mL rt R Z cn sn pc ls (.int (nI x) :: .int (nI j) :: .ref (gB G + 64) :: st) h := by
  refine b_iast j hd hm.2.2.2.2 rfl hj (by decide) ?_
  refine a_h (congrArg (fun e => h.set 64 e) (show _ = (ints G 24 (va_up (s.1) j x) : va_E) from ?_)) (kk _ ⟨by rw [List.length_set]; exact hm.1, fun k hk => hs_ne (by omega) (hm.2.1 k hk), hs_ne (by decide) hm.2.2.1, hs_ne (by decide) hm.2.2.2.1, hs_eq hm.2.2.2.2⟩)
  exact congrArg (fun g : Nat → Int32 => (show va_E from .inl (gc G 0, 24, .inl g))) (upd_nI _ _ _)
end SUr
set_option maxRecDepth 100000 in
set_option maxHeartbeats 4000000 in
theorem x_within {G : Cx} {d : Nat} {h : List va_E} {Q : Option Value → List va_E → Prop} {x lo hi : Int32} (hd : 1 ≤ d) (hz : gz G = false) (k : Q (some (.int (bI (inR lo hi x)))) h) : AM G yX11_within cX11_within 3 (some .boolean) d 0 0 [.int x, .int lo, .int hi] h Q := by
  obtain ⟨d, rfl, he⟩ := dpos hd
  refine AM.of [some (.int (x)), some (.int (lo)), some (.int (hi))] pnX11 (Nat.le_of_ble_eq_true rfl) (by simp [lsub, lvI, Value.category]) ?_
  refine a_iloadn_0 (pc := 0) dX11_within_0 ?_
  refine a_iloadn_1 (pc := 1) dX11_within_1 ?_
  refine a_icmp_lt (pc := 2) (tgt := 14) dX11_within_2 (by decide) (fun c_2 => ?_) (fun c_2 => ?_)
  · refine a_iconst (pc := 14) (v := nI 0) dX11_within_14 (by decide) ?_
    exact a_zret (pc := 15) dX11_within_15 rfl (by first | rfl | exact bI_nar _ | decide) (zf hz) (by rw [show inR lo hi x = false by (simp only [inR, Bool.and_eq_false_iff, decide_eq_false_iff_not]; exact Or.inl (Int32.not_le.mpr c_2))] at k; exact k)
  · refine a_iloadn_0 (pc := 5) dX11_within_5 ?_
    refine a_iloadn_2 (pc := 6) dX11_within_6 ?_
    refine a_icmp_gt (pc := 7) (tgt := 14) dX11_within_7 (by decide) (fun c_7 => ?_) (fun c_7 => ?_)
    · refine a_iconst (pc := 14) (v := nI 0) dX11_within_14 (by decide) ?_
      exact a_zret (pc := 15) dX11_within_15 rfl (by first | rfl | exact bI_nar _ | decide) (zf hz) (by rw [show inR lo hi x = false by (simp only [inR, Bool.and_eq_false_iff, decide_eq_false_iff_not]; exact Or.inr (Int32.not_le.mpr c_7))] at k; exact k)
    · refine a_iconst (pc := 10) (v := nI 1) dX11_within_10 (by decide) ?_
      refine a_goto (pc := 11) (tgt := 15) dX11_within_11 (by decide) ?_
      exact a_zret (pc := 15) dX11_within_15 rfl (by first | rfl | exact bI_nar _ | decide) (zf hz) (by rw [show inR lo hi x = true by (simp only [inR, Bool.and_eq_true, decide_eq_true_eq]; exact ⟨Int32.not_lt.mp c_2, Int32.not_lt.mp c_7⟩)] at k; exact k)
def tp1 (a : Su) (x : Int32) : Ac := (x + nI a.2.2.1, [])
def tp11 (a : Su) (x : Int32) : Ac := (x ^^^ nI a.2.2.1, [])
def tp10 (a : Su) (x : Int32) : Ac := ((bS a.2.2.1 a.2.2.2 x).1 * nI 2, (bS a.2.2.1 a.2.2.2 x).2)
def tp2 (a : Su) (x : Int32) : Ac := ((hS a.2.2.1 a.2.2.2 a.2.2.2 x).1 - (lS a.2.2.1 a.2.2.2 a.2.2.2 (nI 1)).1, (hS a.2.2.1 a.2.2.2 a.2.2.2 x).2 ++ (lS a.2.2.1 a.2.2.2 a.2.2.2 (nI 1)).2)
def ud20 (a : Su) (x : Int32) : Ac := ((bS a.2.2.1 0 x).1 + nI 3, (bS a.2.2.1 0 x).2)
def ud70 (a : Su) (x : Int32) : Ac := ((bS a.2.2.1 0 x).1 * nI 2, (bS a.2.2.1 0 x).2)
def ud40 (a : Su) (x : Int32) : Ac := ((lS a.2.2.1 a.2.2.2 2 x).1 * nI 3, (lS a.2.2.1 a.2.2.2 2 x).2)
def ud50 (a : Su) (x : Int32) : Ac := ((lS a.2.2.1 a.2.2.2 1 x).1 - (bS a.2.2.1 a.2.2.2 (nI 2)).1, (lS a.2.2.1 a.2.2.2 1 x).2 ++ (bS a.2.2.1 a.2.2.2 (nI 2)).2)
def ud30 (a : Su) (x : Int32) : Ac := (-(hS a.2.2.1 a.2.2.2 0 x).1, (hS a.2.2.1 a.2.2.2 0 x).2)
def ud41 (a : Su) (x : Int32) : Ac := ((hS a.2.2.1 a.2.2.2 2 (x + nI 1)).1, (hS a.2.2.1 a.2.2.2 2 (x + nI 1)).2)
def ud80 (a : Su) (x : Int32) : Ac := ((hS a.2.2.1 a.2.2.2 4 x).1 + (lS a.2.2.1 a.2.2.2 a.2.2.2 (nI 2)).1, (hS a.2.2.1 a.2.2.2 4 x).2 ++ (lS a.2.2.1 a.2.2.2 a.2.2.2 (nI 2)).2)
def ud60 (a : Su) (x : Int32) : Ac := ((tlS a.2.2.1 a.2.2.2 3 x).1 ^^^ nI 5, (tlS a.2.2.1 a.2.2.2 3 x).2)
def ud81 (a : Su) (x : Int32) : Ac := ((tlS a.2.2.1 a.2.2.2 4 x).1 - nI 1, (tlS a.2.2.1 a.2.2.2 4 x).2)
set_option maxRecDepth 100000 in
set_option maxHeartbeats 4000000 in
theorem k_body_1 {G : Cx} {d : Nat} {h h0 : List va_E} {a : Su} {s : Rn} {Q : Option Value → List va_E → Prop} (hd : 1 ≤ d) (hz : gz G = false) (hm : SU G h0 h a s) (hsk : a.2.2.2 < 8) {x : Int32} {dp : Nat} (hdp : dp ≤ 41) (hr : s.2 < 1000) (k9 : ∀ h1, SU G h0 h1 a (rns s (tp1 a x).2) → Q (some (.int (tp1 a x).1)) h1) : AM G yX5_runTop cX5_runTop 4 (some .int) d 0 0 [.ref (gB G + 62), .int (nI (1)), .int (x), .int (nI (dp))] h Q := by
  obtain ⟨d, rfl, he⟩ := dpos hd
  refine AM.of [some (.ref (gB G + 62)), some (.int (nI (1))), some (.int (x)), some (.int (nI (dp)))] pnX5 (Nat.le_of_ble_eq_true rfl) (by simp [lsub, lvI, Value.category]) ?_
  refine a_iloadn_1 (pc := 0) dX5_runTop_0 ?_
  refine a_lookup (pc := 1) (off := 43) (tgt := 44) dX5_runTop_1 (by decide) (by decide) (by decide) ?_
  refine a_iloadn_2 (pc := 44) dX5_runTop_44 ?_
  refine a_aloadn_0 (pc := 45) dX5_runTop_45 ?_
  refine kg_38 (x := a.2.2.1) hm rfl dX5_runTop_46 rfl ?_
  refine a_iadd (pc := 49) dX5_runTop_49 ?_
  exact a_iret (pc := 50) dX5_runTop_50 rfl (zf hz) (k9 _ (by rw [show rns s (tp1 a x).2 = s from (by first | rfl | exact rns_app _ _ _)]; exact hm))
set_option maxRecDepth 100000 in
set_option maxHeartbeats 4000000 in
theorem k_run0_0 {G : Cx} {d : Nat} {h h0 : List va_E} {a : Su} {s : Rn} {Q : Option Value → List va_E → Prop} (hd : 2 ≤ d) (hz : gz G = false) (hm : SU G h0 h a s) (hsk : a.2.2.2 < 8) {x : Int32} {dp : Nat} (hdp : dp ≤ 40) (hr : s.2 < 999) (k9 : ∀ h1, SU G h0 h1 a (rns s (bS a.2.2.1 0 x).2) → Q (some (.int (bS a.2.2.1 0 x).1)) h1) : AM G yX5_run cX5_run 7 (some .int) d 0 0 [.ref (gB G + 62), .int (nI (0)), .int (nI (0)), .int (x), .int (nI (dp))] h Q := by
  obtain ⟨d, rfl, he⟩ := dpos hd
  refine AM.of [some (.ref (gB G + 62)), some (.int (nI (0))), some (.int (nI (0))), some (.int (x)), some (.int (nI (dp))), none, none] pnX5 (Nat.le_of_ble_eq_true rfl) (by simp [lsub, lvI, Value.category]) ?_
  refine a_iload_4 (pc := 0) dX5_run_0 ?_
  refine a_bipush (pc := 2) (v := nI 40) dX5_run_2 (by decide) ?_
  refine n_icmp_gt (tgt := 17) dX5_run_4 (by decide) (by omega) (by decide) (fun c_4 => by omega) (fun c_4 => ?_)
  refine a_iloadn_1 (pc := 7) dX5_run_7 ?_
  refine a_iconst (pc := 8) (v := nI 0) dX5_run_8 (by decide) ?_
  refine a_bipush (pc := 9) (v := nI 7) dX5_run_9 (by decide) ?_
  refine cs_X5_22 (pc := 11) rfl dX5_run_11 (Nat.le_of_ble_eq_true rfl) ?_
  refine x_within (by omega) hz ?_
  refine a_topi (bI true) (by decide) ?_
  refine b_if_ne (pc := 14) (tgt := 19) dX5_run_14 (by decide) (fun c_14 => ?_) (fun c_14 => by cases c_14)
  refine a_iloadn_1 (pc := 19) dX5_run_19 ?_
  refine a_istore_5 (pc := 20) dX5_run_20 (by decide) (by first | rfl | trivial) ?_
  refine a_iconst (pc := 22) (v := nI 0) dX5_run_22 (by decide) ?_
  refine a_istore_6 (pc := 23) dX5_run_23 (by decide) (by first | rfl | trivial) ?_
  refine a_iload_6 (pc := 25) dX5_run_25 ?_
  refine a_bipush (pc := 27) (v := nI 8) dX5_run_27 (by decide) ?_
  refine n_icmp_ge (tgt := 64) dX5_run_29 (by decide) (by decide) (by decide) (fun c_29 => by omega) (fun c_29 => ?_)
  refine a_iload_5 (pc := 32) dX5_run_32 ?_
  refine n_if_le (tgt := 64) dX5_run_34 (by decide) (by decide) (fun c_34 => ?_) (fun c_34 => by omega)
  refine a_gets (pc := 64) (i := 4) (by decide) dX5_run_64 rfl w_895 ?_
  refine a_iload_5 (pc := 67) dX5_run_67 ?_
  refine a_iconst (pc := 69) (v := nI 4) dX5_run_69 (by decide) ?_
  refine n_imul dX5_run_70 ?_
  refine a_iloadn_2 (pc := 71) dX5_run_71 ?_
  refine n_iadd dX5_run_72 ?_
  refine a_sil (pc := 73) 0 (t := 4) (by decide) dX5_run_73 rfl (by decide) ?_
  refine a_topi (nI 1) (by decide) ?_
  refine a_istore_6 (pc := 74) dX5_run_74 (by decide) (by first | rfl | trivial) ?_
  refine a_aloadn_0 (pc := 76) dX5_run_76 ?_
  refine kg_29 (x := s.2) hm rfl dX5_run_77 rfl ?_
  refine a_bipush (pc := 80) (v := nI 24) dX5_run_80 (by decide) ?_
  refine n_icmp_ge (tgt := 96) dX5_run_82 (by decide) (by omega) (by decide) (fun c_82 => ?_) (fun c_82 => ?_)
  · have e9 : (rn s 1) = (s.1, s.2 + 1) := by unfold rn; rw [if_neg (by omega)]
    refine a_aloadn_0 (pc := 96) dX5_run_96 ?_
    refine a_dup (pc := 97) dX5_run_97 rfl ?_
    refine kg_29 (x := s.2) hm rfl dX5_run_98 rfl ?_
    refine a_iconst (pc := 101) (v := nI 1) dX5_run_101 (by decide) ?_
    refine n_iadd dX5_run_102 ?_
    refine kp_29 (x := s.2 + 1) hm rfl dX5_run_103 (fun h1 hm1 => ?_)
    have hm9 : SU G h0 h1 a (rn s 1) := by rw [e9]; exact hm1
    have er : (rn s 1).2 = s.2 + 1 := rfl
    refine a_iload_5 (pc := 106) dX5_run_106 ?_
    refine n_if_ne (tgt := 125) dX5_run_108 (by decide) (by decide) (fun c_108 => by omega) (fun c_108 => ?_)
    refine a_aloadn_0 (pc := 111) dX5_run_111 ?_
    refine a_iload_6 (pc := 112) dX5_run_112 ?_
    refine a_iloadn_3 (pc := 114) dX5_run_114 ?_
    refine a_iload_4 (pc := 115) dX5_run_115 ?_
    refine a_iconst (pc := 117) (v := nI 1) dX5_run_117 (by decide) ?_
    refine n_iadd dX5_run_118 ?_
    refine cv_X5_51 (pc := 119) rfl dX5_run_119 hm9.ob (Nat.le_of_ble_eq_true rfl) ?_
    refine k_body_1 (by omega) hz hm9 hsk (dp := (dp + 1)) (by omega) (by omega) (fun h2 hm2 => ?_)
    refine a_goto (pc := 122) (tgt := 138) dX5_run_122 (by decide) ?_
    exact a_iret (pc := 138) dX5_run_138 rfl (zf hz) (k9 _ (show SU G h0 _ a (rns s (bS a.2.2.1 0 x).2) from hm2))
  · have e9 : (rn s 1) = (va_up s.1 s.2 1, s.2 + 1) := by unfold rn; rw [if_pos c_82]
    refine a_aloadn_0 (pc := 85) dX5_run_85 ?_
    refine kg_15 hm rfl dX5_run_86 ?_
    refine a_aloadn_0 (pc := 89) dX5_run_89 ?_
    refine kg_29 (x := s.2) hm rfl dX5_run_90 rfl ?_
    refine a_iload_6 (pc := 93) dX5_run_93 ?_
    refine ks_trace (j := s.2) (x := 1) hm dX5_run_95 (by omega) (fun h1 hm1 => ?_)
    refine a_aloadn_0 (pc := 96) dX5_run_96 ?_
    refine a_dup (pc := 97) dX5_run_97 rfl ?_
    refine kg_29 (x := ((va_up s.1 s.2 1, s.2)).2) hm1 rfl dX5_run_98 rfl ?_
    refine a_iconst (pc := 101) (v := nI 1) dX5_run_101 (by decide) ?_
    refine n_iadd dX5_run_102 ?_
    refine kp_29 (x := ((va_up s.1 s.2 1, s.2)).2 + 1) hm1 rfl dX5_run_103 (fun h2 hm2 => ?_)
    have hm9 : SU G h0 h2 a (rn s 1) := by rw [e9]; exact hm2
    have er : (rn s 1).2 = s.2 + 1 := rfl
    refine a_iload_5 (pc := 106) dX5_run_106 ?_
    refine n_if_ne (tgt := 125) dX5_run_108 (by decide) (by decide) (fun c_108 => by omega) (fun c_108 => ?_)
    refine a_aloadn_0 (pc := 111) dX5_run_111 ?_
    refine a_iload_6 (pc := 112) dX5_run_112 ?_
    refine a_iloadn_3 (pc := 114) dX5_run_114 ?_
    refine a_iload_4 (pc := 115) dX5_run_115 ?_
    refine a_iconst (pc := 117) (v := nI 1) dX5_run_117 (by decide) ?_
    refine n_iadd dX5_run_118 ?_
    refine cv_X5_51 (pc := 119) rfl dX5_run_119 hm9.ob (Nat.le_of_ble_eq_true rfl) ?_
    refine k_body_1 (by omega) hz hm9 hsk (dp := (dp + 1)) (by omega) (by omega) (fun h3 hm3 => ?_)
    refine a_goto (pc := 122) (tgt := 138) dX5_run_122 (by decide) ?_
    exact a_iret (pc := 138) dX5_run_138 rfl (zf hz) (k9 _ (show SU G h0 _ a (rns s (bS a.2.2.1 0 x).2) from hm3))
set_option maxRecDepth 100000 in
set_option maxHeartbeats 4000000 in
theorem k_run0_2 {G : Cx} {d : Nat} {h h0 : List va_E} {a : Su} {s : Rn} {Q : Option Value → List va_E → Prop} (hd : 2 ≤ d) (hz : gz G = false) (hm : SU G h0 h a s) (hsk : a.2.2.2 < 8) {x : Int32} {dp : Nat} (hdp : dp ≤ 40) (hr : s.2 < 999) (k9 : ∀ h1, SU G h0 h1 a (rns s (bS a.2.2.1 2 x).2) → Q (some (.int (bS a.2.2.1 2 x).1)) h1) : AM G yX5_run cX5_run 7 (some .int) d 0 0 [.ref (gB G + 62), .int (nI (2)), .int (nI (0)), .int (x), .int (nI (dp))] h Q := by
  obtain ⟨d, rfl, he⟩ := dpos hd
  refine AM.of [some (.ref (gB G + 62)), some (.int (nI (2))), some (.int (nI (0))), some (.int (x)), some (.int (nI (dp))), none, none] pnX5 (Nat.le_of_ble_eq_true rfl) (by simp [lsub, lvI, Value.category]) ?_
  refine a_iload_4 (pc := 0) dX5_run_0 ?_
  refine a_bipush (pc := 2) (v := nI 40) dX5_run_2 (by decide) ?_
  refine n_icmp_gt (tgt := 17) dX5_run_4 (by decide) (by omega) (by decide) (fun c_4 => by omega) (fun c_4 => ?_)
  refine a_iloadn_1 (pc := 7) dX5_run_7 ?_
  refine a_iconst (pc := 8) (v := nI 0) dX5_run_8 (by decide) ?_
  refine a_bipush (pc := 9) (v := nI 7) dX5_run_9 (by decide) ?_
  refine cs_X5_22 (pc := 11) rfl dX5_run_11 (Nat.le_of_ble_eq_true rfl) ?_
  refine x_within (by omega) hz ?_
  refine a_topi (bI true) (by decide) ?_
  refine b_if_ne (pc := 14) (tgt := 19) dX5_run_14 (by decide) (fun c_14 => ?_) (fun c_14 => by cases c_14)
  refine a_iloadn_1 (pc := 19) dX5_run_19 ?_
  refine a_istore_5 (pc := 20) dX5_run_20 (by decide) (by first | rfl | trivial) ?_
  refine a_iconst (pc := 22) (v := nI 0) dX5_run_22 (by decide) ?_
  refine a_istore_6 (pc := 23) dX5_run_23 (by decide) (by first | rfl | trivial) ?_
  refine a_iload_6 (pc := 25) dX5_run_25 ?_
  refine a_bipush (pc := 27) (v := nI 8) dX5_run_27 (by decide) ?_
  refine n_icmp_ge (tgt := 64) dX5_run_29 (by decide) (by decide) (by decide) (fun c_29 => by omega) (fun c_29 => ?_)
  refine a_iload_5 (pc := 32) dX5_run_32 ?_
  refine n_if_le (tgt := 64) dX5_run_34 (by decide) (by decide) (fun c_34 => by omega) (fun c_34 => ?_)
  refine a_gets (pc := 37) (i := 4) (by decide) dX5_run_37 rfl w_895 ?_
  refine a_iload_5 (pc := 40) dX5_run_40 ?_
  refine a_iconst (pc := 42) (v := nI 4) dX5_run_42 (by decide) ?_
  refine n_imul dX5_run_43 ?_
  refine a_iloadn_2 (pc := 44) dX5_run_44 ?_
  refine n_iadd dX5_run_45 ?_
  refine a_sil (pc := 46) 8 (t := 4) (by decide) dX5_run_46 rfl (by decide) ?_
  refine a_topi (nI 0) (by decide) ?_
  refine n_if_ne (tgt := 64) dX5_run_47 (by decide) (by decide) (fun c_47 => by omega) (fun c_47 => ?_)
  refine a_gets (pc := 50) (i := 3) (by decide) dX5_run_50 rfl w_897 ?_
  refine a_iload_5 (pc := 53) dX5_run_53 ?_
  refine a_sil (pc := 55) 2 (t := 3) (by decide) dX5_run_55 rfl (by decide) ?_
  refine a_topi (nI 0) (by decide) ?_
  refine a_istore_5 (pc := 56) dX5_run_56 (by decide) (by first | rfl | trivial) ?_
  refine a_iinc_6 (pc := 58) (v := nI (1)) dX5_run_58 (nI_add _ _) (by decide) (by first | rfl | trivial) ?_
  refine a_goto (pc := 61) (tgt := 25) dX5_run_61 (by decide) ?_
  refine a_iload_6 (pc := 25) dX5_run_25 ?_
  refine a_bipush (pc := 27) (v := nI 8) dX5_run_27 (by decide) ?_
  refine n_icmp_ge (tgt := 64) dX5_run_29 (by decide) (by decide) (by decide) (fun c_29 => by omega) (fun c_29 => ?_)
  refine a_iload_5 (pc := 32) dX5_run_32 ?_
  refine n_if_le (tgt := 64) dX5_run_34 (by decide) (by decide) (fun c_34 => ?_) (fun c_34 => by omega)
  refine a_gets (pc := 64) (i := 4) (by decide) dX5_run_64 rfl w_895 ?_
  refine a_iload_5 (pc := 67) dX5_run_67 ?_
  refine a_iconst (pc := 69) (v := nI 4) dX5_run_69 (by decide) ?_
  refine n_imul dX5_run_70 ?_
  refine a_iloadn_2 (pc := 71) dX5_run_71 ?_
  refine n_iadd dX5_run_72 ?_
  refine a_sil (pc := 73) 0 (t := 4) (by decide) dX5_run_73 rfl (by decide) ?_
  refine a_topi (nI 1) (by decide) ?_
  refine a_istore_6 (pc := 74) dX5_run_74 (by decide) (by first | rfl | trivial) ?_
  refine a_aloadn_0 (pc := 76) dX5_run_76 ?_
  refine kg_29 (x := s.2) hm rfl dX5_run_77 rfl ?_
  refine a_bipush (pc := 80) (v := nI 24) dX5_run_80 (by decide) ?_
  refine n_icmp_ge (tgt := 96) dX5_run_82 (by decide) (by omega) (by decide) (fun c_82 => ?_) (fun c_82 => ?_)
  · have e9 : (rn s 1) = (s.1, s.2 + 1) := by unfold rn; rw [if_neg (by omega)]
    refine a_aloadn_0 (pc := 96) dX5_run_96 ?_
    refine a_dup (pc := 97) dX5_run_97 rfl ?_
    refine kg_29 (x := s.2) hm rfl dX5_run_98 rfl ?_
    refine a_iconst (pc := 101) (v := nI 1) dX5_run_101 (by decide) ?_
    refine n_iadd dX5_run_102 ?_
    refine kp_29 (x := s.2 + 1) hm rfl dX5_run_103 (fun h1 hm1 => ?_)
    have hm9 : SU G h0 h1 a (rn s 1) := by rw [e9]; exact hm1
    have er : (rn s 1).2 = s.2 + 1 := rfl
    refine a_iload_5 (pc := 106) dX5_run_106 ?_
    refine n_if_ne (tgt := 125) dX5_run_108 (by decide) (by decide) (fun c_108 => by omega) (fun c_108 => ?_)
    refine a_aloadn_0 (pc := 111) dX5_run_111 ?_
    refine a_iload_6 (pc := 112) dX5_run_112 ?_
    refine a_iloadn_3 (pc := 114) dX5_run_114 ?_
    refine a_iload_4 (pc := 115) dX5_run_115 ?_
    refine a_iconst (pc := 117) (v := nI 1) dX5_run_117 (by decide) ?_
    refine n_iadd dX5_run_118 ?_
    refine cv_X5_51 (pc := 119) rfl dX5_run_119 hm9.ob (Nat.le_of_ble_eq_true rfl) ?_
    refine k_body_1 (by omega) hz hm9 hsk (dp := (dp + 1)) (by omega) (by omega) (fun h2 hm2 => ?_)
    refine a_goto (pc := 122) (tgt := 138) dX5_run_122 (by decide) ?_
    exact a_iret (pc := 138) dX5_run_138 rfl (zf hz) (k9 _ (show SU G h0 _ a (rns s (bS a.2.2.1 2 x).2) from hm2))
  · have e9 : (rn s 1) = (va_up s.1 s.2 1, s.2 + 1) := by unfold rn; rw [if_pos c_82]
    refine a_aloadn_0 (pc := 85) dX5_run_85 ?_
    refine kg_15 hm rfl dX5_run_86 ?_
    refine a_aloadn_0 (pc := 89) dX5_run_89 ?_
    refine kg_29 (x := s.2) hm rfl dX5_run_90 rfl ?_
    refine a_iload_6 (pc := 93) dX5_run_93 ?_
    refine ks_trace (j := s.2) (x := 1) hm dX5_run_95 (by omega) (fun h1 hm1 => ?_)
    refine a_aloadn_0 (pc := 96) dX5_run_96 ?_
    refine a_dup (pc := 97) dX5_run_97 rfl ?_
    refine kg_29 (x := ((va_up s.1 s.2 1, s.2)).2) hm1 rfl dX5_run_98 rfl ?_
    refine a_iconst (pc := 101) (v := nI 1) dX5_run_101 (by decide) ?_
    refine n_iadd dX5_run_102 ?_
    refine kp_29 (x := ((va_up s.1 s.2 1, s.2)).2 + 1) hm1 rfl dX5_run_103 (fun h2 hm2 => ?_)
    have hm9 : SU G h0 h2 a (rn s 1) := by rw [e9]; exact hm2
    have er : (rn s 1).2 = s.2 + 1 := rfl
    refine a_iload_5 (pc := 106) dX5_run_106 ?_
    refine n_if_ne (tgt := 125) dX5_run_108 (by decide) (by decide) (fun c_108 => by omega) (fun c_108 => ?_)
    refine a_aloadn_0 (pc := 111) dX5_run_111 ?_
    refine a_iload_6 (pc := 112) dX5_run_112 ?_
    refine a_iloadn_3 (pc := 114) dX5_run_114 ?_
    refine a_iload_4 (pc := 115) dX5_run_115 ?_
    refine a_iconst (pc := 117) (v := nI 1) dX5_run_117 (by decide) ?_
    refine n_iadd dX5_run_118 ?_
    refine cv_X5_51 (pc := 119) rfl dX5_run_119 hm9.ob (Nat.le_of_ble_eq_true rfl) ?_
    refine k_body_1 (by omega) hz hm9 hsk (dp := (dp + 1)) (by omega) (by omega) (fun h3 hm3 => ?_)
    refine a_goto (pc := 122) (tgt := 138) dX5_run_122 (by decide) ?_
    exact a_iret (pc := 138) dX5_run_138 rfl (zf hz) (k9 _ (show SU G h0 _ a (rns s (bS a.2.2.1 2 x).2) from hm3))
set_option maxRecDepth 100000 in
set_option maxHeartbeats 4000000 in
theorem k_run0_3 {G : Cx} {d : Nat} {h h0 : List va_E} {a : Su} {s : Rn} {Q : Option Value → List va_E → Prop} (hd : 2 ≤ d) (hz : gz G = false) (hm : SU G h0 h a s) (hsk : a.2.2.2 < 8) {x : Int32} {dp : Nat} (hdp : dp ≤ 40) (hr : s.2 < 999) (k9 : ∀ h1, SU G h0 h1 a (rns s (bS a.2.2.1 3 x).2) → Q (some (.int (bS a.2.2.1 3 x).1)) h1) : AM G yX5_run cX5_run 7 (some .int) d 0 0 [.ref (gB G + 62), .int (nI (3)), .int (nI (0)), .int (x), .int (nI (dp))] h Q := by
  obtain ⟨d, rfl, he⟩ := dpos hd
  refine AM.of [some (.ref (gB G + 62)), some (.int (nI (3))), some (.int (nI (0))), some (.int (x)), some (.int (nI (dp))), none, none] pnX5 (Nat.le_of_ble_eq_true rfl) (by simp [lsub, lvI, Value.category]) ?_
  refine a_iload_4 (pc := 0) dX5_run_0 ?_
  refine a_bipush (pc := 2) (v := nI 40) dX5_run_2 (by decide) ?_
  refine n_icmp_gt (tgt := 17) dX5_run_4 (by decide) (by omega) (by decide) (fun c_4 => by omega) (fun c_4 => ?_)
  refine a_iloadn_1 (pc := 7) dX5_run_7 ?_
  refine a_iconst (pc := 8) (v := nI 0) dX5_run_8 (by decide) ?_
  refine a_bipush (pc := 9) (v := nI 7) dX5_run_9 (by decide) ?_
  refine cs_X5_22 (pc := 11) rfl dX5_run_11 (Nat.le_of_ble_eq_true rfl) ?_
  refine x_within (by omega) hz ?_
  refine a_topi (bI true) (by decide) ?_
  refine b_if_ne (pc := 14) (tgt := 19) dX5_run_14 (by decide) (fun c_14 => ?_) (fun c_14 => by cases c_14)
  refine a_iloadn_1 (pc := 19) dX5_run_19 ?_
  refine a_istore_5 (pc := 20) dX5_run_20 (by decide) (by first | rfl | trivial) ?_
  refine a_iconst (pc := 22) (v := nI 0) dX5_run_22 (by decide) ?_
  refine a_istore_6 (pc := 23) dX5_run_23 (by decide) (by first | rfl | trivial) ?_
  refine a_iload_6 (pc := 25) dX5_run_25 ?_
  refine a_bipush (pc := 27) (v := nI 8) dX5_run_27 (by decide) ?_
  refine n_icmp_ge (tgt := 64) dX5_run_29 (by decide) (by decide) (by decide) (fun c_29 => by omega) (fun c_29 => ?_)
  refine a_iload_5 (pc := 32) dX5_run_32 ?_
  refine n_if_le (tgt := 64) dX5_run_34 (by decide) (by decide) (fun c_34 => by omega) (fun c_34 => ?_)
  refine a_gets (pc := 37) (i := 4) (by decide) dX5_run_37 rfl w_895 ?_
  refine a_iload_5 (pc := 40) dX5_run_40 ?_
  refine a_iconst (pc := 42) (v := nI 4) dX5_run_42 (by decide) ?_
  refine n_imul dX5_run_43 ?_
  refine a_iloadn_2 (pc := 44) dX5_run_44 ?_
  refine n_iadd dX5_run_45 ?_
  refine a_sil (pc := 46) 12 (t := 4) (by decide) dX5_run_46 rfl (by decide) ?_
  refine a_topi (nI 0) (by decide) ?_
  refine n_if_ne (tgt := 64) dX5_run_47 (by decide) (by decide) (fun c_47 => by omega) (fun c_47 => ?_)
  refine a_gets (pc := 50) (i := 3) (by decide) dX5_run_50 rfl w_897 ?_
  refine a_iload_5 (pc := 53) dX5_run_53 ?_
  refine a_sil (pc := 55) 3 (t := 3) (by decide) dX5_run_55 rfl (by decide) ?_
  refine a_topi (nI 2) (by decide) ?_
  refine a_istore_5 (pc := 56) dX5_run_56 (by decide) (by first | rfl | trivial) ?_
  refine a_iinc_6 (pc := 58) (v := nI (1)) dX5_run_58 (nI_add _ _) (by decide) (by first | rfl | trivial) ?_
  refine a_goto (pc := 61) (tgt := 25) dX5_run_61 (by decide) ?_
  refine a_iload_6 (pc := 25) dX5_run_25 ?_
  refine a_bipush (pc := 27) (v := nI 8) dX5_run_27 (by decide) ?_
  refine n_icmp_ge (tgt := 64) dX5_run_29 (by decide) (by decide) (by decide) (fun c_29 => by omega) (fun c_29 => ?_)
  refine a_iload_5 (pc := 32) dX5_run_32 ?_
  refine n_if_le (tgt := 64) dX5_run_34 (by decide) (by decide) (fun c_34 => by omega) (fun c_34 => ?_)
  refine a_gets (pc := 37) (i := 4) (by decide) dX5_run_37 rfl w_895 ?_
  refine a_iload_5 (pc := 40) dX5_run_40 ?_
  refine a_iconst (pc := 42) (v := nI 4) dX5_run_42 (by decide) ?_
  refine n_imul dX5_run_43 ?_
  refine a_iloadn_2 (pc := 44) dX5_run_44 ?_
  refine n_iadd dX5_run_45 ?_
  refine a_sil (pc := 46) 8 (t := 4) (by decide) dX5_run_46 rfl (by decide) ?_
  refine a_topi (nI 0) (by decide) ?_
  refine n_if_ne (tgt := 64) dX5_run_47 (by decide) (by decide) (fun c_47 => by omega) (fun c_47 => ?_)
  refine a_gets (pc := 50) (i := 3) (by decide) dX5_run_50 rfl w_897 ?_
  refine a_iload_5 (pc := 53) dX5_run_53 ?_
  refine a_sil (pc := 55) 2 (t := 3) (by decide) dX5_run_55 rfl (by decide) ?_
  refine a_topi (nI 0) (by decide) ?_
  refine a_istore_5 (pc := 56) dX5_run_56 (by decide) (by first | rfl | trivial) ?_
  refine a_iinc_6 (pc := 58) (v := nI (2)) dX5_run_58 (nI_add _ _) (by decide) (by first | rfl | trivial) ?_
  refine a_goto (pc := 61) (tgt := 25) dX5_run_61 (by decide) ?_
  refine a_iload_6 (pc := 25) dX5_run_25 ?_
  refine a_bipush (pc := 27) (v := nI 8) dX5_run_27 (by decide) ?_
  refine n_icmp_ge (tgt := 64) dX5_run_29 (by decide) (by decide) (by decide) (fun c_29 => by omega) (fun c_29 => ?_)
  refine a_iload_5 (pc := 32) dX5_run_32 ?_
  refine n_if_le (tgt := 64) dX5_run_34 (by decide) (by decide) (fun c_34 => ?_) (fun c_34 => by omega)
  refine a_gets (pc := 64) (i := 4) (by decide) dX5_run_64 rfl w_895 ?_
  refine a_iload_5 (pc := 67) dX5_run_67 ?_
  refine a_iconst (pc := 69) (v := nI 4) dX5_run_69 (by decide) ?_
  refine n_imul dX5_run_70 ?_
  refine a_iloadn_2 (pc := 71) dX5_run_71 ?_
  refine n_iadd dX5_run_72 ?_
  refine a_sil (pc := 73) 0 (t := 4) (by decide) dX5_run_73 rfl (by decide) ?_
  refine a_topi (nI 1) (by decide) ?_
  refine a_istore_6 (pc := 74) dX5_run_74 (by decide) (by first | rfl | trivial) ?_
  refine a_aloadn_0 (pc := 76) dX5_run_76 ?_
  refine kg_29 (x := s.2) hm rfl dX5_run_77 rfl ?_
  refine a_bipush (pc := 80) (v := nI 24) dX5_run_80 (by decide) ?_
  refine n_icmp_ge (tgt := 96) dX5_run_82 (by decide) (by omega) (by decide) (fun c_82 => ?_) (fun c_82 => ?_)
  · have e9 : (rn s 1) = (s.1, s.2 + 1) := by unfold rn; rw [if_neg (by omega)]
    refine a_aloadn_0 (pc := 96) dX5_run_96 ?_
    refine a_dup (pc := 97) dX5_run_97 rfl ?_
    refine kg_29 (x := s.2) hm rfl dX5_run_98 rfl ?_
    refine a_iconst (pc := 101) (v := nI 1) dX5_run_101 (by decide) ?_
    refine n_iadd dX5_run_102 ?_
    refine kp_29 (x := s.2 + 1) hm rfl dX5_run_103 (fun h1 hm1 => ?_)
    have hm9 : SU G h0 h1 a (rn s 1) := by rw [e9]; exact hm1
    have er : (rn s 1).2 = s.2 + 1 := rfl
    refine a_iload_5 (pc := 106) dX5_run_106 ?_
    refine n_if_ne (tgt := 125) dX5_run_108 (by decide) (by decide) (fun c_108 => by omega) (fun c_108 => ?_)
    refine a_aloadn_0 (pc := 111) dX5_run_111 ?_
    refine a_iload_6 (pc := 112) dX5_run_112 ?_
    refine a_iloadn_3 (pc := 114) dX5_run_114 ?_
    refine a_iload_4 (pc := 115) dX5_run_115 ?_
    refine a_iconst (pc := 117) (v := nI 1) dX5_run_117 (by decide) ?_
    refine n_iadd dX5_run_118 ?_
    refine cv_X5_51 (pc := 119) rfl dX5_run_119 hm9.ob (Nat.le_of_ble_eq_true rfl) ?_
    refine k_body_1 (by omega) hz hm9 hsk (dp := (dp + 1)) (by omega) (by omega) (fun h2 hm2 => ?_)
    refine a_goto (pc := 122) (tgt := 138) dX5_run_122 (by decide) ?_
    exact a_iret (pc := 138) dX5_run_138 rfl (zf hz) (k9 _ (show SU G h0 _ a (rns s (bS a.2.2.1 3 x).2) from hm2))
  · have e9 : (rn s 1) = (va_up s.1 s.2 1, s.2 + 1) := by unfold rn; rw [if_pos c_82]
    refine a_aloadn_0 (pc := 85) dX5_run_85 ?_
    refine kg_15 hm rfl dX5_run_86 ?_
    refine a_aloadn_0 (pc := 89) dX5_run_89 ?_
    refine kg_29 (x := s.2) hm rfl dX5_run_90 rfl ?_
    refine a_iload_6 (pc := 93) dX5_run_93 ?_
    refine ks_trace (j := s.2) (x := 1) hm dX5_run_95 (by omega) (fun h1 hm1 => ?_)
    refine a_aloadn_0 (pc := 96) dX5_run_96 ?_
    refine a_dup (pc := 97) dX5_run_97 rfl ?_
    refine kg_29 (x := ((va_up s.1 s.2 1, s.2)).2) hm1 rfl dX5_run_98 rfl ?_
    refine a_iconst (pc := 101) (v := nI 1) dX5_run_101 (by decide) ?_
    refine n_iadd dX5_run_102 ?_
    refine kp_29 (x := ((va_up s.1 s.2 1, s.2)).2 + 1) hm1 rfl dX5_run_103 (fun h2 hm2 => ?_)
    have hm9 : SU G h0 h2 a (rn s 1) := by rw [e9]; exact hm2
    have er : (rn s 1).2 = s.2 + 1 := rfl
    refine a_iload_5 (pc := 106) dX5_run_106 ?_
    refine n_if_ne (tgt := 125) dX5_run_108 (by decide) (by decide) (fun c_108 => by omega) (fun c_108 => ?_)
    refine a_aloadn_0 (pc := 111) dX5_run_111 ?_
    refine a_iload_6 (pc := 112) dX5_run_112 ?_
    refine a_iloadn_3 (pc := 114) dX5_run_114 ?_
    refine a_iload_4 (pc := 115) dX5_run_115 ?_
    refine a_iconst (pc := 117) (v := nI 1) dX5_run_117 (by decide) ?_
    refine n_iadd dX5_run_118 ?_
    refine cv_X5_51 (pc := 119) rfl dX5_run_119 hm9.ob (Nat.le_of_ble_eq_true rfl) ?_
    refine k_body_1 (by omega) hz hm9 hsk (dp := (dp + 1)) (by omega) (by omega) (fun h3 hm3 => ?_)
    refine a_goto (pc := 122) (tgt := 138) dX5_run_122 (by decide) ?_
    exact a_iret (pc := 138) dX5_run_138 rfl (zf hz) (k9 _ (show SU G h0 _ a (rns s (bS a.2.2.1 3 x).2) from hm3))
set_option maxRecDepth 100000 in
set_option maxHeartbeats 4000000 in
theorem k_run0_5 {G : Cx} {d : Nat} {h h0 : List va_E} {a : Su} {s : Rn} {Q : Option Value → List va_E → Prop} (hd : 2 ≤ d) (hz : gz G = false) (hm : SU G h0 h a s) (hsk : a.2.2.2 < 8) {x : Int32} {dp : Nat} (hdp : dp ≤ 40) (hr : s.2 < 999) (k9 : ∀ h1, SU G h0 h1 a (rns s (bS a.2.2.1 5 x).2) → Q (some (.int (bS a.2.2.1 5 x).1)) h1) : AM G yX5_run cX5_run 7 (some .int) d 0 0 [.ref (gB G + 62), .int (nI (5)), .int (nI (0)), .int (x), .int (nI (dp))] h Q := by
  obtain ⟨d, rfl, he⟩ := dpos hd
  refine AM.of [some (.ref (gB G + 62)), some (.int (nI (5))), some (.int (nI (0))), some (.int (x)), some (.int (nI (dp))), none, none] pnX5 (Nat.le_of_ble_eq_true rfl) (by simp [lsub, lvI, Value.category]) ?_
  refine a_iload_4 (pc := 0) dX5_run_0 ?_
  refine a_bipush (pc := 2) (v := nI 40) dX5_run_2 (by decide) ?_
  refine n_icmp_gt (tgt := 17) dX5_run_4 (by decide) (by omega) (by decide) (fun c_4 => by omega) (fun c_4 => ?_)
  refine a_iloadn_1 (pc := 7) dX5_run_7 ?_
  refine a_iconst (pc := 8) (v := nI 0) dX5_run_8 (by decide) ?_
  refine a_bipush (pc := 9) (v := nI 7) dX5_run_9 (by decide) ?_
  refine cs_X5_22 (pc := 11) rfl dX5_run_11 (Nat.le_of_ble_eq_true rfl) ?_
  refine x_within (by omega) hz ?_
  refine a_topi (bI true) (by decide) ?_
  refine b_if_ne (pc := 14) (tgt := 19) dX5_run_14 (by decide) (fun c_14 => ?_) (fun c_14 => by cases c_14)
  refine a_iloadn_1 (pc := 19) dX5_run_19 ?_
  refine a_istore_5 (pc := 20) dX5_run_20 (by decide) (by first | rfl | trivial) ?_
  refine a_iconst (pc := 22) (v := nI 0) dX5_run_22 (by decide) ?_
  refine a_istore_6 (pc := 23) dX5_run_23 (by decide) (by first | rfl | trivial) ?_
  refine a_iload_6 (pc := 25) dX5_run_25 ?_
  refine a_bipush (pc := 27) (v := nI 8) dX5_run_27 (by decide) ?_
  refine n_icmp_ge (tgt := 64) dX5_run_29 (by decide) (by decide) (by decide) (fun c_29 => by omega) (fun c_29 => ?_)
  refine a_iload_5 (pc := 32) dX5_run_32 ?_
  refine n_if_le (tgt := 64) dX5_run_34 (by decide) (by decide) (fun c_34 => by omega) (fun c_34 => ?_)
  refine a_gets (pc := 37) (i := 4) (by decide) dX5_run_37 rfl w_895 ?_
  refine a_iload_5 (pc := 40) dX5_run_40 ?_
  refine a_iconst (pc := 42) (v := nI 4) dX5_run_42 (by decide) ?_
  refine n_imul dX5_run_43 ?_
  refine a_iloadn_2 (pc := 44) dX5_run_44 ?_
  refine n_iadd dX5_run_45 ?_
  refine a_sil (pc := 46) 20 (t := 4) (by decide) dX5_run_46 rfl (by decide) ?_
  refine a_topi (nI 0) (by decide) ?_
  refine n_if_ne (tgt := 64) dX5_run_47 (by decide) (by decide) (fun c_47 => by omega) (fun c_47 => ?_)
  refine a_gets (pc := 50) (i := 3) (by decide) dX5_run_50 rfl w_897 ?_
  refine a_iload_5 (pc := 53) dX5_run_53 ?_
  refine a_sil (pc := 55) 5 (t := 3) (by decide) dX5_run_55 rfl (by decide) ?_
  refine a_topi (nI 3) (by decide) ?_
  refine a_istore_5 (pc := 56) dX5_run_56 (by decide) (by first | rfl | trivial) ?_
  refine a_iinc_6 (pc := 58) (v := nI (1)) dX5_run_58 (nI_add _ _) (by decide) (by first | rfl | trivial) ?_
  refine a_goto (pc := 61) (tgt := 25) dX5_run_61 (by decide) ?_
  refine a_iload_6 (pc := 25) dX5_run_25 ?_
  refine a_bipush (pc := 27) (v := nI 8) dX5_run_27 (by decide) ?_
  refine n_icmp_ge (tgt := 64) dX5_run_29 (by decide) (by decide) (by decide) (fun c_29 => by omega) (fun c_29 => ?_)
  refine a_iload_5 (pc := 32) dX5_run_32 ?_
  refine n_if_le (tgt := 64) dX5_run_34 (by decide) (by decide) (fun c_34 => by omega) (fun c_34 => ?_)
  refine a_gets (pc := 37) (i := 4) (by decide) dX5_run_37 rfl w_895 ?_
  refine a_iload_5 (pc := 40) dX5_run_40 ?_
  refine a_iconst (pc := 42) (v := nI 4) dX5_run_42 (by decide) ?_
  refine n_imul dX5_run_43 ?_
  refine a_iloadn_2 (pc := 44) dX5_run_44 ?_
  refine n_iadd dX5_run_45 ?_
  refine a_sil (pc := 46) 12 (t := 4) (by decide) dX5_run_46 rfl (by decide) ?_
  refine a_topi (nI 0) (by decide) ?_
  refine n_if_ne (tgt := 64) dX5_run_47 (by decide) (by decide) (fun c_47 => by omega) (fun c_47 => ?_)
  refine a_gets (pc := 50) (i := 3) (by decide) dX5_run_50 rfl w_897 ?_
  refine a_iload_5 (pc := 53) dX5_run_53 ?_
  refine a_sil (pc := 55) 3 (t := 3) (by decide) dX5_run_55 rfl (by decide) ?_
  refine a_topi (nI 2) (by decide) ?_
  refine a_istore_5 (pc := 56) dX5_run_56 (by decide) (by first | rfl | trivial) ?_
  refine a_iinc_6 (pc := 58) (v := nI (2)) dX5_run_58 (nI_add _ _) (by decide) (by first | rfl | trivial) ?_
  refine a_goto (pc := 61) (tgt := 25) dX5_run_61 (by decide) ?_
  refine a_iload_6 (pc := 25) dX5_run_25 ?_
  refine a_bipush (pc := 27) (v := nI 8) dX5_run_27 (by decide) ?_
  refine n_icmp_ge (tgt := 64) dX5_run_29 (by decide) (by decide) (by decide) (fun c_29 => by omega) (fun c_29 => ?_)
  refine a_iload_5 (pc := 32) dX5_run_32 ?_
  refine n_if_le (tgt := 64) dX5_run_34 (by decide) (by decide) (fun c_34 => by omega) (fun c_34 => ?_)
  refine a_gets (pc := 37) (i := 4) (by decide) dX5_run_37 rfl w_895 ?_
  refine a_iload_5 (pc := 40) dX5_run_40 ?_
  refine a_iconst (pc := 42) (v := nI 4) dX5_run_42 (by decide) ?_
  refine n_imul dX5_run_43 ?_
  refine a_iloadn_2 (pc := 44) dX5_run_44 ?_
  refine n_iadd dX5_run_45 ?_
  refine a_sil (pc := 46) 8 (t := 4) (by decide) dX5_run_46 rfl (by decide) ?_
  refine a_topi (nI 0) (by decide) ?_
  refine n_if_ne (tgt := 64) dX5_run_47 (by decide) (by decide) (fun c_47 => by omega) (fun c_47 => ?_)
  refine a_gets (pc := 50) (i := 3) (by decide) dX5_run_50 rfl w_897 ?_
  refine a_iload_5 (pc := 53) dX5_run_53 ?_
  refine a_sil (pc := 55) 2 (t := 3) (by decide) dX5_run_55 rfl (by decide) ?_
  refine a_topi (nI 0) (by decide) ?_
  refine a_istore_5 (pc := 56) dX5_run_56 (by decide) (by first | rfl | trivial) ?_
  refine a_iinc_6 (pc := 58) (v := nI (3)) dX5_run_58 (nI_add _ _) (by decide) (by first | rfl | trivial) ?_
  refine a_goto (pc := 61) (tgt := 25) dX5_run_61 (by decide) ?_
  refine a_iload_6 (pc := 25) dX5_run_25 ?_
  refine a_bipush (pc := 27) (v := nI 8) dX5_run_27 (by decide) ?_
  refine n_icmp_ge (tgt := 64) dX5_run_29 (by decide) (by decide) (by decide) (fun c_29 => by omega) (fun c_29 => ?_)
  refine a_iload_5 (pc := 32) dX5_run_32 ?_
  refine n_if_le (tgt := 64) dX5_run_34 (by decide) (by decide) (fun c_34 => ?_) (fun c_34 => by omega)
  refine a_gets (pc := 64) (i := 4) (by decide) dX5_run_64 rfl w_895 ?_
  refine a_iload_5 (pc := 67) dX5_run_67 ?_
  refine a_iconst (pc := 69) (v := nI 4) dX5_run_69 (by decide) ?_
  refine n_imul dX5_run_70 ?_
  refine a_iloadn_2 (pc := 71) dX5_run_71 ?_
  refine n_iadd dX5_run_72 ?_
  refine a_sil (pc := 73) 0 (t := 4) (by decide) dX5_run_73 rfl (by decide) ?_
  refine a_topi (nI 1) (by decide) ?_
  refine a_istore_6 (pc := 74) dX5_run_74 (by decide) (by first | rfl | trivial) ?_
  refine a_aloadn_0 (pc := 76) dX5_run_76 ?_
  refine kg_29 (x := s.2) hm rfl dX5_run_77 rfl ?_
  refine a_bipush (pc := 80) (v := nI 24) dX5_run_80 (by decide) ?_
  refine n_icmp_ge (tgt := 96) dX5_run_82 (by decide) (by omega) (by decide) (fun c_82 => ?_) (fun c_82 => ?_)
  · have e9 : (rn s 1) = (s.1, s.2 + 1) := by unfold rn; rw [if_neg (by omega)]
    refine a_aloadn_0 (pc := 96) dX5_run_96 ?_
    refine a_dup (pc := 97) dX5_run_97 rfl ?_
    refine kg_29 (x := s.2) hm rfl dX5_run_98 rfl ?_
    refine a_iconst (pc := 101) (v := nI 1) dX5_run_101 (by decide) ?_
    refine n_iadd dX5_run_102 ?_
    refine kp_29 (x := s.2 + 1) hm rfl dX5_run_103 (fun h1 hm1 => ?_)
    have hm9 : SU G h0 h1 a (rn s 1) := by rw [e9]; exact hm1
    have er : (rn s 1).2 = s.2 + 1 := rfl
    refine a_iload_5 (pc := 106) dX5_run_106 ?_
    refine n_if_ne (tgt := 125) dX5_run_108 (by decide) (by decide) (fun c_108 => by omega) (fun c_108 => ?_)
    refine a_aloadn_0 (pc := 111) dX5_run_111 ?_
    refine a_iload_6 (pc := 112) dX5_run_112 ?_
    refine a_iloadn_3 (pc := 114) dX5_run_114 ?_
    refine a_iload_4 (pc := 115) dX5_run_115 ?_
    refine a_iconst (pc := 117) (v := nI 1) dX5_run_117 (by decide) ?_
    refine n_iadd dX5_run_118 ?_
    refine cv_X5_51 (pc := 119) rfl dX5_run_119 hm9.ob (Nat.le_of_ble_eq_true rfl) ?_
    refine k_body_1 (by omega) hz hm9 hsk (dp := (dp + 1)) (by omega) (by omega) (fun h2 hm2 => ?_)
    refine a_goto (pc := 122) (tgt := 138) dX5_run_122 (by decide) ?_
    exact a_iret (pc := 138) dX5_run_138 rfl (zf hz) (k9 _ (show SU G h0 _ a (rns s (bS a.2.2.1 5 x).2) from hm2))
  · have e9 : (rn s 1) = (va_up s.1 s.2 1, s.2 + 1) := by unfold rn; rw [if_pos c_82]
    refine a_aloadn_0 (pc := 85) dX5_run_85 ?_
    refine kg_15 hm rfl dX5_run_86 ?_
    refine a_aloadn_0 (pc := 89) dX5_run_89 ?_
    refine kg_29 (x := s.2) hm rfl dX5_run_90 rfl ?_
    refine a_iload_6 (pc := 93) dX5_run_93 ?_
    refine ks_trace (j := s.2) (x := 1) hm dX5_run_95 (by omega) (fun h1 hm1 => ?_)
    refine a_aloadn_0 (pc := 96) dX5_run_96 ?_
    refine a_dup (pc := 97) dX5_run_97 rfl ?_
    refine kg_29 (x := ((va_up s.1 s.2 1, s.2)).2) hm1 rfl dX5_run_98 rfl ?_
    refine a_iconst (pc := 101) (v := nI 1) dX5_run_101 (by decide) ?_
    refine n_iadd dX5_run_102 ?_
    refine kp_29 (x := ((va_up s.1 s.2 1, s.2)).2 + 1) hm1 rfl dX5_run_103 (fun h2 hm2 => ?_)
    have hm9 : SU G h0 h2 a (rn s 1) := by rw [e9]; exact hm2
    have er : (rn s 1).2 = s.2 + 1 := rfl
    refine a_iload_5 (pc := 106) dX5_run_106 ?_
    refine n_if_ne (tgt := 125) dX5_run_108 (by decide) (by decide) (fun c_108 => by omega) (fun c_108 => ?_)
    refine a_aloadn_0 (pc := 111) dX5_run_111 ?_
    refine a_iload_6 (pc := 112) dX5_run_112 ?_
    refine a_iloadn_3 (pc := 114) dX5_run_114 ?_
    refine a_iload_4 (pc := 115) dX5_run_115 ?_
    refine a_iconst (pc := 117) (v := nI 1) dX5_run_117 (by decide) ?_
    refine n_iadd dX5_run_118 ?_
    refine cv_X5_51 (pc := 119) rfl dX5_run_119 hm9.ob (Nat.le_of_ble_eq_true rfl) ?_
    refine k_body_1 (by omega) hz hm9 hsk (dp := (dp + 1)) (by omega) (by omega) (fun h3 hm3 => ?_)
    refine a_goto (pc := 122) (tgt := 138) dX5_run_122 (by decide) ?_
    exact a_iret (pc := 138) dX5_run_138 rfl (zf hz) (k9 _ (show SU G h0 _ a (rns s (bS a.2.2.1 5 x).2) from hm3))
set_option maxRecDepth 100000 in
set_option maxHeartbeats 4000000 in
theorem k_body_20 {G : Cx} {d : Nat} {h h0 : List va_E} {a : Su} {s : Rn} {Q : Option Value → List va_E → Prop} (hd : 3 ≤ d) (hz : gz G = false) (hm : SU G h0 h a s) (hsk : a.2.2.2 < 8) {x : Int32} {dp : Nat} (hdp : dp ≤ 40) (hr : s.2 < 999) (k9 : ∀ h1, SU G h0 h1 a (rns s (ud20 a x).2) → Q (some (.int (ud20 a x).1)) h1) : AM G yX5_runUnder cX5_runUnder 6 (some .int) d 0 0 [.ref (gB G + 62), .int (nI (20)), .int (nI (1)), .int (x), .int (nI (dp))] h Q := by
  obtain ⟨d, rfl, he⟩ := dpos hd
  refine AM.of [some (.ref (gB G + 62)), some (.int (nI (20))), some (.int (nI (1))), some (.int (x)), some (.int (nI (dp))), none] pnX5 (Nat.le_of_ble_eq_true rfl) (by simp [lsub, lvI, Value.category]) ?_
  refine a_gets (pc := 0) (i := 3) (by decide) dX5_runUnder_0 rfl w_897 ?_
  refine a_iloadn_2 (pc := 3) dX5_runUnder_3 ?_
  refine a_sil (pc := 4) 1 (t := 3) (by decide) dX5_runUnder_4 rfl (by decide) ?_
  refine a_topi (nI 0) (by decide) ?_
  refine a_istore_5 (pc := 5) dX5_runUnder_5 (by decide) (by first | rfl | trivial) ?_
  refine a_iloadn_1 (pc := 7) dX5_runUnder_7 ?_
  refine a_lookup (pc := 8) (off := 84) (tgt := 92) dX5_runUnder_8 (by decide) (by decide) (by decide) ?_
  refine a_aloadn_0 (pc := 92) dX5_runUnder_92 ?_
  refine a_iload_5 (pc := 93) dX5_runUnder_93 ?_
  refine a_iconst (pc := 95) (v := nI 0) dX5_runUnder_95 (by decide) ?_
  refine a_iloadn_3 (pc := 96) dX5_runUnder_96 ?_
  refine a_iload_4 (pc := 97) dX5_runUnder_97 ?_
  refine cv_X5_44 (pc := 99) rfl dX5_runUnder_99 hm.ob (Nat.le_of_ble_eq_true rfl) ?_
  refine k_run0_0 (by omega) hz hm hsk (dp := dp) (by omega) (by omega) (fun h1 hm1 => ?_)
  have hl1 := bS_len a.2.2.1 0 ((x))
  have hr1 := rns_len (bS a.2.2.1 0 ((x))).2 s
  refine a_iconst (pc := 102) (v := nI 3) dX5_runUnder_102 (by decide) ?_
  refine a_iadd (pc := 103) dX5_runUnder_103 ?_
  exact a_iret (pc := 104) dX5_runUnder_104 rfl (zf hz) (k9 _ (by rw [show rns s (ud20 a x).2 = (rns s (bS a.2.2.1 0 ((x))).2) from (by first | rfl | exact rns_app _ _ _)]; exact hm1))
set_option maxRecDepth 100000 in
set_option maxHeartbeats 4000000 in
theorem k_body_70 {G : Cx} {d : Nat} {h h0 : List va_E} {a : Su} {s : Rn} {Q : Option Value → List va_E → Prop} (hd : 3 ≤ d) (hz : gz G = false) (hm : SU G h0 h a s) (hsk : a.2.2.2 < 8) {x : Int32} {dp : Nat} (hdp : dp ≤ 40) (hr : s.2 < 999) (k9 : ∀ h1, SU G h0 h1 a (rns s (ud70 a x).2) → Q (some (.int (ud70 a x).1)) h1) : AM G yX5_runUnder cX5_runUnder 6 (some .int) d 0 0 [.ref (gB G + 62), .int (nI (70)), .int (nI (6)), .int (x), .int (nI (dp))] h Q := by
  obtain ⟨d, rfl, he⟩ := dpos hd
  refine AM.of [some (.ref (gB G + 62)), some (.int (nI (70))), some (.int (nI (6))), some (.int (x)), some (.int (nI (dp))), none] pnX5 (Nat.le_of_ble_eq_true rfl) (by simp [lsub, lvI, Value.category]) ?_
  refine a_gets (pc := 0) (i := 3) (by decide) dX5_runUnder_0 rfl w_897 ?_
  refine a_iloadn_2 (pc := 3) dX5_runUnder_3 ?_
  refine a_sil (pc := 4) 6 (t := 3) (by decide) dX5_runUnder_4 rfl (by decide) ?_
  refine a_topi (nI 0) (by decide) ?_
  refine a_istore_5 (pc := 5) dX5_runUnder_5 (by decide) (by first | rfl | trivial) ?_
  refine a_iloadn_1 (pc := 7) dX5_runUnder_7 ?_
  refine a_lookup (pc := 8) (off := 172) (tgt := 180) dX5_runUnder_8 (by decide) (by decide) (by decide) ?_
  refine a_aloadn_0 (pc := 180) dX5_runUnder_180 ?_
  refine a_iload_5 (pc := 181) dX5_runUnder_181 ?_
  refine a_iconst (pc := 183) (v := nI 0) dX5_runUnder_183 (by decide) ?_
  refine a_iloadn_3 (pc := 184) dX5_runUnder_184 ?_
  refine a_iload_4 (pc := 185) dX5_runUnder_185 ?_
  refine cv_X5_44 (pc := 187) rfl dX5_runUnder_187 hm.ob (Nat.le_of_ble_eq_true rfl) ?_
  refine k_run0_0 (by omega) hz hm hsk (dp := dp) (by omega) (by omega) (fun h1 hm1 => ?_)
  have hl1 := bS_len a.2.2.1 0 ((x))
  have hr1 := rns_len (bS a.2.2.1 0 ((x))).2 s
  refine a_iconst (pc := 190) (v := nI 2) dX5_runUnder_190 (by decide) ?_
  refine a_imul (pc := 191) dX5_runUnder_191 ?_
  exact a_iret (pc := 192) dX5_runUnder_192 rfl (zf hz) (k9 _ (by rw [show rns s (ud70 a x).2 = (rns s (bS a.2.2.1 0 ((x))).2) from (by first | rfl | exact rns_app _ _ _)]; exact hm1))
set_option maxRecDepth 100000 in
set_option maxHeartbeats 4000000 in
theorem k_run0_1 {G : Cx} {d : Nat} {h h0 : List va_E} {a : Su} {s : Rn} {Q : Option Value → List va_E → Prop} (hd : 4 ≤ d) (hz : gz G = false) (hm : SU G h0 h a s) (hsk : a.2.2.2 < 8) {x : Int32} {dp : Nat} (hdp : dp ≤ 39) (hr : s.2 < 998) (k9 : ∀ h1, SU G h0 h1 a (rns s (bS a.2.2.1 1 x).2) → Q (some (.int (bS a.2.2.1 1 x).1)) h1) : AM G yX5_run cX5_run 7 (some .int) d 0 0 [.ref (gB G + 62), .int (nI (1)), .int (nI (0)), .int (x), .int (nI (dp))] h Q := by
  obtain ⟨d, rfl, he⟩ := dpos hd
  refine AM.of [some (.ref (gB G + 62)), some (.int (nI (1))), some (.int (nI (0))), some (.int (x)), some (.int (nI (dp))), none, none] pnX5 (Nat.le_of_ble_eq_true rfl) (by simp [lsub, lvI, Value.category]) ?_
  refine a_iload_4 (pc := 0) dX5_run_0 ?_
  refine a_bipush (pc := 2) (v := nI 40) dX5_run_2 (by decide) ?_
  refine n_icmp_gt (tgt := 17) dX5_run_4 (by decide) (by omega) (by decide) (fun c_4 => by omega) (fun c_4 => ?_)
  refine a_iloadn_1 (pc := 7) dX5_run_7 ?_
  refine a_iconst (pc := 8) (v := nI 0) dX5_run_8 (by decide) ?_
  refine a_bipush (pc := 9) (v := nI 7) dX5_run_9 (by decide) ?_
  refine cs_X5_22 (pc := 11) rfl dX5_run_11 (Nat.le_of_ble_eq_true rfl) ?_
  refine x_within (by omega) hz ?_
  refine a_topi (bI true) (by decide) ?_
  refine b_if_ne (pc := 14) (tgt := 19) dX5_run_14 (by decide) (fun c_14 => ?_) (fun c_14 => by cases c_14)
  refine a_iloadn_1 (pc := 19) dX5_run_19 ?_
  refine a_istore_5 (pc := 20) dX5_run_20 (by decide) (by first | rfl | trivial) ?_
  refine a_iconst (pc := 22) (v := nI 0) dX5_run_22 (by decide) ?_
  refine a_istore_6 (pc := 23) dX5_run_23 (by decide) (by first | rfl | trivial) ?_
  refine a_iload_6 (pc := 25) dX5_run_25 ?_
  refine a_bipush (pc := 27) (v := nI 8) dX5_run_27 (by decide) ?_
  refine n_icmp_ge (tgt := 64) dX5_run_29 (by decide) (by decide) (by decide) (fun c_29 => by omega) (fun c_29 => ?_)
  refine a_iload_5 (pc := 32) dX5_run_32 ?_
  refine n_if_le (tgt := 64) dX5_run_34 (by decide) (by decide) (fun c_34 => by omega) (fun c_34 => ?_)
  refine a_gets (pc := 37) (i := 4) (by decide) dX5_run_37 rfl w_895 ?_
  refine a_iload_5 (pc := 40) dX5_run_40 ?_
  refine a_iconst (pc := 42) (v := nI 4) dX5_run_42 (by decide) ?_
  refine n_imul dX5_run_43 ?_
  refine a_iloadn_2 (pc := 44) dX5_run_44 ?_
  refine n_iadd dX5_run_45 ?_
  refine a_sil (pc := 46) 4 (t := 4) (by decide) dX5_run_46 rfl (by decide) ?_
  refine a_topi (nI 20) (by decide) ?_
  refine n_if_ne (tgt := 64) dX5_run_47 (by decide) (by decide) (fun c_47 => ?_) (fun c_47 => by omega)
  refine a_gets (pc := 64) (i := 4) (by decide) dX5_run_64 rfl w_895 ?_
  refine a_iload_5 (pc := 67) dX5_run_67 ?_
  refine a_iconst (pc := 69) (v := nI 4) dX5_run_69 (by decide) ?_
  refine n_imul dX5_run_70 ?_
  refine a_iloadn_2 (pc := 71) dX5_run_71 ?_
  refine n_iadd dX5_run_72 ?_
  refine a_sil (pc := 73) 4 (t := 4) (by decide) dX5_run_73 rfl (by decide) ?_
  refine a_topi (nI 20) (by decide) ?_
  refine a_istore_6 (pc := 74) dX5_run_74 (by decide) (by first | rfl | trivial) ?_
  refine a_aloadn_0 (pc := 76) dX5_run_76 ?_
  refine kg_29 (x := s.2) hm rfl dX5_run_77 rfl ?_
  refine a_bipush (pc := 80) (v := nI 24) dX5_run_80 (by decide) ?_
  refine n_icmp_ge (tgt := 96) dX5_run_82 (by decide) (by omega) (by decide) (fun c_82 => ?_) (fun c_82 => ?_)
  · have e9 : (rn s 20) = (s.1, s.2 + 1) := by unfold rn; rw [if_neg (by omega)]
    refine a_aloadn_0 (pc := 96) dX5_run_96 ?_
    refine a_dup (pc := 97) dX5_run_97 rfl ?_
    refine kg_29 (x := s.2) hm rfl dX5_run_98 rfl ?_
    refine a_iconst (pc := 101) (v := nI 1) dX5_run_101 (by decide) ?_
    refine n_iadd dX5_run_102 ?_
    refine kp_29 (x := s.2 + 1) hm rfl dX5_run_103 (fun h1 hm1 => ?_)
    have hm9 : SU G h0 h1 a (rn s 20) := by rw [e9]; exact hm1
    have er : (rn s 20).2 = s.2 + 1 := rfl
    refine a_iload_5 (pc := 106) dX5_run_106 ?_
    refine n_if_ne (tgt := 125) dX5_run_108 (by decide) (by decide) (fun c_108 => ?_) (fun c_108 => by omega)
    refine a_aloadn_0 (pc := 125) dX5_run_125 ?_
    refine a_iload_6 (pc := 126) dX5_run_126 ?_
    refine a_iload_5 (pc := 128) dX5_run_128 ?_
    refine a_iloadn_3 (pc := 130) dX5_run_130 ?_
    refine a_iload_4 (pc := 131) dX5_run_131 ?_
    refine a_iconst (pc := 133) (v := nI 1) dX5_run_133 (by decide) ?_
    refine n_iadd dX5_run_134 ?_
    refine cv_X5_55 (pc := 135) rfl dX5_run_135 hm9.ob (Nat.le_of_ble_eq_true rfl) ?_
    refine k_body_20 (by omega) hz hm9 hsk (dp := (dp + 1)) (by omega) (by omega) (fun h2 hm2 => ?_)
    exact a_iret (pc := 138) dX5_run_138 rfl (zf hz) (k9 _ (show SU G h0 _ a (rns s (bS a.2.2.1 1 x).2) from hm2))
  · have e9 : (rn s 20) = (va_up s.1 s.2 20, s.2 + 1) := by unfold rn; rw [if_pos c_82]
    refine a_aloadn_0 (pc := 85) dX5_run_85 ?_
    refine kg_15 hm rfl dX5_run_86 ?_
    refine a_aloadn_0 (pc := 89) dX5_run_89 ?_
    refine kg_29 (x := s.2) hm rfl dX5_run_90 rfl ?_
    refine a_iload_6 (pc := 93) dX5_run_93 ?_
    refine ks_trace (j := s.2) (x := 20) hm dX5_run_95 (by omega) (fun h1 hm1 => ?_)
    refine a_aloadn_0 (pc := 96) dX5_run_96 ?_
    refine a_dup (pc := 97) dX5_run_97 rfl ?_
    refine kg_29 (x := ((va_up s.1 s.2 20, s.2)).2) hm1 rfl dX5_run_98 rfl ?_
    refine a_iconst (pc := 101) (v := nI 1) dX5_run_101 (by decide) ?_
    refine n_iadd dX5_run_102 ?_
    refine kp_29 (x := ((va_up s.1 s.2 20, s.2)).2 + 1) hm1 rfl dX5_run_103 (fun h2 hm2 => ?_)
    have hm9 : SU G h0 h2 a (rn s 20) := by rw [e9]; exact hm2
    have er : (rn s 20).2 = s.2 + 1 := rfl
    refine a_iload_5 (pc := 106) dX5_run_106 ?_
    refine n_if_ne (tgt := 125) dX5_run_108 (by decide) (by decide) (fun c_108 => ?_) (fun c_108 => by omega)
    refine a_aloadn_0 (pc := 125) dX5_run_125 ?_
    refine a_iload_6 (pc := 126) dX5_run_126 ?_
    refine a_iload_5 (pc := 128) dX5_run_128 ?_
    refine a_iloadn_3 (pc := 130) dX5_run_130 ?_
    refine a_iload_4 (pc := 131) dX5_run_131 ?_
    refine a_iconst (pc := 133) (v := nI 1) dX5_run_133 (by decide) ?_
    refine n_iadd dX5_run_134 ?_
    refine cv_X5_55 (pc := 135) rfl dX5_run_135 hm9.ob (Nat.le_of_ble_eq_true rfl) ?_
    refine k_body_20 (by omega) hz hm9 hsk (dp := (dp + 1)) (by omega) (by omega) (fun h3 hm3 => ?_)
    exact a_iret (pc := 138) dX5_run_138 rfl (zf hz) (k9 _ (show SU G h0 _ a (rns s (bS a.2.2.1 1 x).2) from hm3))
set_option maxRecDepth 100000 in
set_option maxHeartbeats 4000000 in
theorem k_run0_4 {G : Cx} {d : Nat} {h h0 : List va_E} {a : Su} {s : Rn} {Q : Option Value → List va_E → Prop} (hd : 4 ≤ d) (hz : gz G = false) (hm : SU G h0 h a s) (hsk : a.2.2.2 < 8) {x : Int32} {dp : Nat} (hdp : dp ≤ 39) (hr : s.2 < 998) (k9 : ∀ h1, SU G h0 h1 a (rns s (bS a.2.2.1 4 x).2) → Q (some (.int (bS a.2.2.1 4 x).1)) h1) : AM G yX5_run cX5_run 7 (some .int) d 0 0 [.ref (gB G + 62), .int (nI (4)), .int (nI (0)), .int (x), .int (nI (dp))] h Q := by
  obtain ⟨d, rfl, he⟩ := dpos hd
  refine AM.of [some (.ref (gB G + 62)), some (.int (nI (4))), some (.int (nI (0))), some (.int (x)), some (.int (nI (dp))), none, none] pnX5 (Nat.le_of_ble_eq_true rfl) (by simp [lsub, lvI, Value.category]) ?_
  refine a_iload_4 (pc := 0) dX5_run_0 ?_
  refine a_bipush (pc := 2) (v := nI 40) dX5_run_2 (by decide) ?_
  refine n_icmp_gt (tgt := 17) dX5_run_4 (by decide) (by omega) (by decide) (fun c_4 => by omega) (fun c_4 => ?_)
  refine a_iloadn_1 (pc := 7) dX5_run_7 ?_
  refine a_iconst (pc := 8) (v := nI 0) dX5_run_8 (by decide) ?_
  refine a_bipush (pc := 9) (v := nI 7) dX5_run_9 (by decide) ?_
  refine cs_X5_22 (pc := 11) rfl dX5_run_11 (Nat.le_of_ble_eq_true rfl) ?_
  refine x_within (by omega) hz ?_
  refine a_topi (bI true) (by decide) ?_
  refine b_if_ne (pc := 14) (tgt := 19) dX5_run_14 (by decide) (fun c_14 => ?_) (fun c_14 => by cases c_14)
  refine a_iloadn_1 (pc := 19) dX5_run_19 ?_
  refine a_istore_5 (pc := 20) dX5_run_20 (by decide) (by first | rfl | trivial) ?_
  refine a_iconst (pc := 22) (v := nI 0) dX5_run_22 (by decide) ?_
  refine a_istore_6 (pc := 23) dX5_run_23 (by decide) (by first | rfl | trivial) ?_
  refine a_iload_6 (pc := 25) dX5_run_25 ?_
  refine a_bipush (pc := 27) (v := nI 8) dX5_run_27 (by decide) ?_
  refine n_icmp_ge (tgt := 64) dX5_run_29 (by decide) (by decide) (by decide) (fun c_29 => by omega) (fun c_29 => ?_)
  refine a_iload_5 (pc := 32) dX5_run_32 ?_
  refine n_if_le (tgt := 64) dX5_run_34 (by decide) (by decide) (fun c_34 => by omega) (fun c_34 => ?_)
  refine a_gets (pc := 37) (i := 4) (by decide) dX5_run_37 rfl w_895 ?_
  refine a_iload_5 (pc := 40) dX5_run_40 ?_
  refine a_iconst (pc := 42) (v := nI 4) dX5_run_42 (by decide) ?_
  refine n_imul dX5_run_43 ?_
  refine a_iloadn_2 (pc := 44) dX5_run_44 ?_
  refine n_iadd dX5_run_45 ?_
  refine a_sil (pc := 46) 16 (t := 4) (by decide) dX5_run_46 rfl (by decide) ?_
  refine a_topi (nI 0) (by decide) ?_
  refine n_if_ne (tgt := 64) dX5_run_47 (by decide) (by decide) (fun c_47 => by omega) (fun c_47 => ?_)
  refine a_gets (pc := 50) (i := 3) (by decide) dX5_run_50 rfl w_897 ?_
  refine a_iload_5 (pc := 53) dX5_run_53 ?_
  refine a_sil (pc := 55) 4 (t := 3) (by decide) dX5_run_55 rfl (by decide) ?_
  refine a_topi (nI 1) (by decide) ?_
  refine a_istore_5 (pc := 56) dX5_run_56 (by decide) (by first | rfl | trivial) ?_
  refine a_iinc_6 (pc := 58) (v := nI (1)) dX5_run_58 (nI_add _ _) (by decide) (by first | rfl | trivial) ?_
  refine a_goto (pc := 61) (tgt := 25) dX5_run_61 (by decide) ?_
  refine a_iload_6 (pc := 25) dX5_run_25 ?_
  refine a_bipush (pc := 27) (v := nI 8) dX5_run_27 (by decide) ?_
  refine n_icmp_ge (tgt := 64) dX5_run_29 (by decide) (by decide) (by decide) (fun c_29 => by omega) (fun c_29 => ?_)
  refine a_iload_5 (pc := 32) dX5_run_32 ?_
  refine n_if_le (tgt := 64) dX5_run_34 (by decide) (by decide) (fun c_34 => by omega) (fun c_34 => ?_)
  refine a_gets (pc := 37) (i := 4) (by decide) dX5_run_37 rfl w_895 ?_
  refine a_iload_5 (pc := 40) dX5_run_40 ?_
  refine a_iconst (pc := 42) (v := nI 4) dX5_run_42 (by decide) ?_
  refine n_imul dX5_run_43 ?_
  refine a_iloadn_2 (pc := 44) dX5_run_44 ?_
  refine n_iadd dX5_run_45 ?_
  refine a_sil (pc := 46) 4 (t := 4) (by decide) dX5_run_46 rfl (by decide) ?_
  refine a_topi (nI 20) (by decide) ?_
  refine n_if_ne (tgt := 64) dX5_run_47 (by decide) (by decide) (fun c_47 => ?_) (fun c_47 => by omega)
  refine a_gets (pc := 64) (i := 4) (by decide) dX5_run_64 rfl w_895 ?_
  refine a_iload_5 (pc := 67) dX5_run_67 ?_
  refine a_iconst (pc := 69) (v := nI 4) dX5_run_69 (by decide) ?_
  refine n_imul dX5_run_70 ?_
  refine a_iloadn_2 (pc := 71) dX5_run_71 ?_
  refine n_iadd dX5_run_72 ?_
  refine a_sil (pc := 73) 4 (t := 4) (by decide) dX5_run_73 rfl (by decide) ?_
  refine a_topi (nI 20) (by decide) ?_
  refine a_istore_6 (pc := 74) dX5_run_74 (by decide) (by first | rfl | trivial) ?_
  refine a_aloadn_0 (pc := 76) dX5_run_76 ?_
  refine kg_29 (x := s.2) hm rfl dX5_run_77 rfl ?_
  refine a_bipush (pc := 80) (v := nI 24) dX5_run_80 (by decide) ?_
  refine n_icmp_ge (tgt := 96) dX5_run_82 (by decide) (by omega) (by decide) (fun c_82 => ?_) (fun c_82 => ?_)
  · have e9 : (rn s 20) = (s.1, s.2 + 1) := by unfold rn; rw [if_neg (by omega)]
    refine a_aloadn_0 (pc := 96) dX5_run_96 ?_
    refine a_dup (pc := 97) dX5_run_97 rfl ?_
    refine kg_29 (x := s.2) hm rfl dX5_run_98 rfl ?_
    refine a_iconst (pc := 101) (v := nI 1) dX5_run_101 (by decide) ?_
    refine n_iadd dX5_run_102 ?_
    refine kp_29 (x := s.2 + 1) hm rfl dX5_run_103 (fun h1 hm1 => ?_)
    have hm9 : SU G h0 h1 a (rn s 20) := by rw [e9]; exact hm1
    have er : (rn s 20).2 = s.2 + 1 := rfl
    refine a_iload_5 (pc := 106) dX5_run_106 ?_
    refine n_if_ne (tgt := 125) dX5_run_108 (by decide) (by decide) (fun c_108 => ?_) (fun c_108 => by omega)
    refine a_aloadn_0 (pc := 125) dX5_run_125 ?_
    refine a_iload_6 (pc := 126) dX5_run_126 ?_
    refine a_iload_5 (pc := 128) dX5_run_128 ?_
    refine a_iloadn_3 (pc := 130) dX5_run_130 ?_
    refine a_iload_4 (pc := 131) dX5_run_131 ?_
    refine a_iconst (pc := 133) (v := nI 1) dX5_run_133 (by decide) ?_
    refine n_iadd dX5_run_134 ?_
    refine cv_X5_55 (pc := 135) rfl dX5_run_135 hm9.ob (Nat.le_of_ble_eq_true rfl) ?_
    refine k_body_20 (by omega) hz hm9 hsk (dp := (dp + 1)) (by omega) (by omega) (fun h2 hm2 => ?_)
    exact a_iret (pc := 138) dX5_run_138 rfl (zf hz) (k9 _ (show SU G h0 _ a (rns s (bS a.2.2.1 4 x).2) from hm2))
  · have e9 : (rn s 20) = (va_up s.1 s.2 20, s.2 + 1) := by unfold rn; rw [if_pos c_82]
    refine a_aloadn_0 (pc := 85) dX5_run_85 ?_
    refine kg_15 hm rfl dX5_run_86 ?_
    refine a_aloadn_0 (pc := 89) dX5_run_89 ?_
    refine kg_29 (x := s.2) hm rfl dX5_run_90 rfl ?_
    refine a_iload_6 (pc := 93) dX5_run_93 ?_
    refine ks_trace (j := s.2) (x := 20) hm dX5_run_95 (by omega) (fun h1 hm1 => ?_)
    refine a_aloadn_0 (pc := 96) dX5_run_96 ?_
    refine a_dup (pc := 97) dX5_run_97 rfl ?_
    refine kg_29 (x := ((va_up s.1 s.2 20, s.2)).2) hm1 rfl dX5_run_98 rfl ?_
    refine a_iconst (pc := 101) (v := nI 1) dX5_run_101 (by decide) ?_
    refine n_iadd dX5_run_102 ?_
    refine kp_29 (x := ((va_up s.1 s.2 20, s.2)).2 + 1) hm1 rfl dX5_run_103 (fun h2 hm2 => ?_)
    have hm9 : SU G h0 h2 a (rn s 20) := by rw [e9]; exact hm2
    have er : (rn s 20).2 = s.2 + 1 := rfl
    refine a_iload_5 (pc := 106) dX5_run_106 ?_
    refine n_if_ne (tgt := 125) dX5_run_108 (by decide) (by decide) (fun c_108 => ?_) (fun c_108 => by omega)
    refine a_aloadn_0 (pc := 125) dX5_run_125 ?_
    refine a_iload_6 (pc := 126) dX5_run_126 ?_
    refine a_iload_5 (pc := 128) dX5_run_128 ?_
    refine a_iloadn_3 (pc := 130) dX5_run_130 ?_
    refine a_iload_4 (pc := 131) dX5_run_131 ?_
    refine a_iconst (pc := 133) (v := nI 1) dX5_run_133 (by decide) ?_
    refine n_iadd dX5_run_134 ?_
    refine cv_X5_55 (pc := 135) rfl dX5_run_135 hm9.ob (Nat.le_of_ble_eq_true rfl) ?_
    refine k_body_20 (by omega) hz hm9 hsk (dp := (dp + 1)) (by omega) (by omega) (fun h3 hm3 => ?_)
    exact a_iret (pc := 138) dX5_run_138 rfl (zf hz) (k9 _ (show SU G h0 _ a (rns s (bS a.2.2.1 4 x).2) from hm3))
set_option maxRecDepth 100000 in
set_option maxHeartbeats 4000000 in
theorem k_run0_6 {G : Cx} {d : Nat} {h h0 : List va_E} {a : Su} {s : Rn} {Q : Option Value → List va_E → Prop} (hd : 4 ≤ d) (hz : gz G = false) (hm : SU G h0 h a s) (hsk : a.2.2.2 < 8) {x : Int32} {dp : Nat} (hdp : dp ≤ 39) (hr : s.2 < 998) (k9 : ∀ h1, SU G h0 h1 a (rns s (bS a.2.2.1 6 x).2) → Q (some (.int (bS a.2.2.1 6 x).1)) h1) : AM G yX5_run cX5_run 7 (some .int) d 0 0 [.ref (gB G + 62), .int (nI (6)), .int (nI (0)), .int (x), .int (nI (dp))] h Q := by
  obtain ⟨d, rfl, he⟩ := dpos hd
  refine AM.of [some (.ref (gB G + 62)), some (.int (nI (6))), some (.int (nI (0))), some (.int (x)), some (.int (nI (dp))), none, none] pnX5 (Nat.le_of_ble_eq_true rfl) (by simp [lsub, lvI, Value.category]) ?_
  refine a_iload_4 (pc := 0) dX5_run_0 ?_
  refine a_bipush (pc := 2) (v := nI 40) dX5_run_2 (by decide) ?_
  refine n_icmp_gt (tgt := 17) dX5_run_4 (by decide) (by omega) (by decide) (fun c_4 => by omega) (fun c_4 => ?_)
  refine a_iloadn_1 (pc := 7) dX5_run_7 ?_
  refine a_iconst (pc := 8) (v := nI 0) dX5_run_8 (by decide) ?_
  refine a_bipush (pc := 9) (v := nI 7) dX5_run_9 (by decide) ?_
  refine cs_X5_22 (pc := 11) rfl dX5_run_11 (Nat.le_of_ble_eq_true rfl) ?_
  refine x_within (by omega) hz ?_
  refine a_topi (bI true) (by decide) ?_
  refine b_if_ne (pc := 14) (tgt := 19) dX5_run_14 (by decide) (fun c_14 => ?_) (fun c_14 => by cases c_14)
  refine a_iloadn_1 (pc := 19) dX5_run_19 ?_
  refine a_istore_5 (pc := 20) dX5_run_20 (by decide) (by first | rfl | trivial) ?_
  refine a_iconst (pc := 22) (v := nI 0) dX5_run_22 (by decide) ?_
  refine a_istore_6 (pc := 23) dX5_run_23 (by decide) (by first | rfl | trivial) ?_
  refine a_iload_6 (pc := 25) dX5_run_25 ?_
  refine a_bipush (pc := 27) (v := nI 8) dX5_run_27 (by decide) ?_
  refine n_icmp_ge (tgt := 64) dX5_run_29 (by decide) (by decide) (by decide) (fun c_29 => by omega) (fun c_29 => ?_)
  refine a_iload_5 (pc := 32) dX5_run_32 ?_
  refine n_if_le (tgt := 64) dX5_run_34 (by decide) (by decide) (fun c_34 => by omega) (fun c_34 => ?_)
  refine a_gets (pc := 37) (i := 4) (by decide) dX5_run_37 rfl w_895 ?_
  refine a_iload_5 (pc := 40) dX5_run_40 ?_
  refine a_iconst (pc := 42) (v := nI 4) dX5_run_42 (by decide) ?_
  refine n_imul dX5_run_43 ?_
  refine a_iloadn_2 (pc := 44) dX5_run_44 ?_
  refine n_iadd dX5_run_45 ?_
  refine a_sil (pc := 46) 24 (t := 4) (by decide) dX5_run_46 rfl (by decide) ?_
  refine a_topi (nI 70) (by decide) ?_
  refine n_if_ne (tgt := 64) dX5_run_47 (by decide) (by decide) (fun c_47 => ?_) (fun c_47 => by omega)
  refine a_gets (pc := 64) (i := 4) (by decide) dX5_run_64 rfl w_895 ?_
  refine a_iload_5 (pc := 67) dX5_run_67 ?_
  refine a_iconst (pc := 69) (v := nI 4) dX5_run_69 (by decide) ?_
  refine n_imul dX5_run_70 ?_
  refine a_iloadn_2 (pc := 71) dX5_run_71 ?_
  refine n_iadd dX5_run_72 ?_
  refine a_sil (pc := 73) 24 (t := 4) (by decide) dX5_run_73 rfl (by decide) ?_
  refine a_topi (nI 70) (by decide) ?_
  refine a_istore_6 (pc := 74) dX5_run_74 (by decide) (by first | rfl | trivial) ?_
  refine a_aloadn_0 (pc := 76) dX5_run_76 ?_
  refine kg_29 (x := s.2) hm rfl dX5_run_77 rfl ?_
  refine a_bipush (pc := 80) (v := nI 24) dX5_run_80 (by decide) ?_
  refine n_icmp_ge (tgt := 96) dX5_run_82 (by decide) (by omega) (by decide) (fun c_82 => ?_) (fun c_82 => ?_)
  · have e9 : (rn s 70) = (s.1, s.2 + 1) := by unfold rn; rw [if_neg (by omega)]
    refine a_aloadn_0 (pc := 96) dX5_run_96 ?_
    refine a_dup (pc := 97) dX5_run_97 rfl ?_
    refine kg_29 (x := s.2) hm rfl dX5_run_98 rfl ?_
    refine a_iconst (pc := 101) (v := nI 1) dX5_run_101 (by decide) ?_
    refine n_iadd dX5_run_102 ?_
    refine kp_29 (x := s.2 + 1) hm rfl dX5_run_103 (fun h1 hm1 => ?_)
    have hm9 : SU G h0 h1 a (rn s 70) := by rw [e9]; exact hm1
    have er : (rn s 70).2 = s.2 + 1 := rfl
    refine a_iload_5 (pc := 106) dX5_run_106 ?_
    refine n_if_ne (tgt := 125) dX5_run_108 (by decide) (by decide) (fun c_108 => ?_) (fun c_108 => by omega)
    refine a_aloadn_0 (pc := 125) dX5_run_125 ?_
    refine a_iload_6 (pc := 126) dX5_run_126 ?_
    refine a_iload_5 (pc := 128) dX5_run_128 ?_
    refine a_iloadn_3 (pc := 130) dX5_run_130 ?_
    refine a_iload_4 (pc := 131) dX5_run_131 ?_
    refine a_iconst (pc := 133) (v := nI 1) dX5_run_133 (by decide) ?_
    refine n_iadd dX5_run_134 ?_
    refine cv_X5_55 (pc := 135) rfl dX5_run_135 hm9.ob (Nat.le_of_ble_eq_true rfl) ?_
    refine k_body_70 (by omega) hz hm9 hsk (dp := (dp + 1)) (by omega) (by omega) (fun h2 hm2 => ?_)
    exact a_iret (pc := 138) dX5_run_138 rfl (zf hz) (k9 _ (show SU G h0 _ a (rns s (bS a.2.2.1 6 x).2) from hm2))
  · have e9 : (rn s 70) = (va_up s.1 s.2 70, s.2 + 1) := by unfold rn; rw [if_pos c_82]
    refine a_aloadn_0 (pc := 85) dX5_run_85 ?_
    refine kg_15 hm rfl dX5_run_86 ?_
    refine a_aloadn_0 (pc := 89) dX5_run_89 ?_
    refine kg_29 (x := s.2) hm rfl dX5_run_90 rfl ?_
    refine a_iload_6 (pc := 93) dX5_run_93 ?_
    refine ks_trace (j := s.2) (x := 70) hm dX5_run_95 (by omega) (fun h1 hm1 => ?_)
    refine a_aloadn_0 (pc := 96) dX5_run_96 ?_
    refine a_dup (pc := 97) dX5_run_97 rfl ?_
    refine kg_29 (x := ((va_up s.1 s.2 70, s.2)).2) hm1 rfl dX5_run_98 rfl ?_
    refine a_iconst (pc := 101) (v := nI 1) dX5_run_101 (by decide) ?_
    refine n_iadd dX5_run_102 ?_
    refine kp_29 (x := ((va_up s.1 s.2 70, s.2)).2 + 1) hm1 rfl dX5_run_103 (fun h2 hm2 => ?_)
    have hm9 : SU G h0 h2 a (rn s 70) := by rw [e9]; exact hm2
    have er : (rn s 70).2 = s.2 + 1 := rfl
    refine a_iload_5 (pc := 106) dX5_run_106 ?_
    refine n_if_ne (tgt := 125) dX5_run_108 (by decide) (by decide) (fun c_108 => ?_) (fun c_108 => by omega)
    refine a_aloadn_0 (pc := 125) dX5_run_125 ?_
    refine a_iload_6 (pc := 126) dX5_run_126 ?_
    refine a_iload_5 (pc := 128) dX5_run_128 ?_
    refine a_iloadn_3 (pc := 130) dX5_run_130 ?_
    refine a_iload_4 (pc := 131) dX5_run_131 ?_
    refine a_iconst (pc := 133) (v := nI 1) dX5_run_133 (by decide) ?_
    refine n_iadd dX5_run_134 ?_
    refine cv_X5_55 (pc := 135) rfl dX5_run_135 hm9.ob (Nat.le_of_ble_eq_true rfl) ?_
    refine k_body_70 (by omega) hz hm9 hsk (dp := (dp + 1)) (by omega) (by omega) (fun h3 hm3 => ?_)
    exact a_iret (pc := 138) dX5_run_138 rfl (zf hz) (k9 _ (show SU G h0 _ a (rns s (bS a.2.2.1 6 x).2) from hm3))
set_option maxRecDepth 100000 in
set_option maxHeartbeats 4000000 in
theorem k_run0_7 {G : Cx} {d : Nat} {h h0 : List va_E} {a : Su} {s : Rn} {Q : Option Value → List va_E → Prop} (hd : 4 ≤ d) (hz : gz G = false) (hm : SU G h0 h a s) (hsk : a.2.2.2 < 8) {x : Int32} {dp : Nat} (hdp : dp ≤ 39) (hr : s.2 < 998) (k9 : ∀ h1, SU G h0 h1 a (rns s (bS a.2.2.1 7 x).2) → Q (some (.int (bS a.2.2.1 7 x).1)) h1) : AM G yX5_run cX5_run 7 (some .int) d 0 0 [.ref (gB G + 62), .int (nI (7)), .int (nI (0)), .int (x), .int (nI (dp))] h Q := by
  obtain ⟨d, rfl, he⟩ := dpos hd
  refine AM.of [some (.ref (gB G + 62)), some (.int (nI (7))), some (.int (nI (0))), some (.int (x)), some (.int (nI (dp))), none, none] pnX5 (Nat.le_of_ble_eq_true rfl) (by simp [lsub, lvI, Value.category]) ?_
  refine a_iload_4 (pc := 0) dX5_run_0 ?_
  refine a_bipush (pc := 2) (v := nI 40) dX5_run_2 (by decide) ?_
  refine n_icmp_gt (tgt := 17) dX5_run_4 (by decide) (by omega) (by decide) (fun c_4 => by omega) (fun c_4 => ?_)
  refine a_iloadn_1 (pc := 7) dX5_run_7 ?_
  refine a_iconst (pc := 8) (v := nI 0) dX5_run_8 (by decide) ?_
  refine a_bipush (pc := 9) (v := nI 7) dX5_run_9 (by decide) ?_
  refine cs_X5_22 (pc := 11) rfl dX5_run_11 (Nat.le_of_ble_eq_true rfl) ?_
  refine x_within (by omega) hz ?_
  refine a_topi (bI true) (by decide) ?_
  refine b_if_ne (pc := 14) (tgt := 19) dX5_run_14 (by decide) (fun c_14 => ?_) (fun c_14 => by cases c_14)
  refine a_iloadn_1 (pc := 19) dX5_run_19 ?_
  refine a_istore_5 (pc := 20) dX5_run_20 (by decide) (by first | rfl | trivial) ?_
  refine a_iconst (pc := 22) (v := nI 0) dX5_run_22 (by decide) ?_
  refine a_istore_6 (pc := 23) dX5_run_23 (by decide) (by first | rfl | trivial) ?_
  refine a_iload_6 (pc := 25) dX5_run_25 ?_
  refine a_bipush (pc := 27) (v := nI 8) dX5_run_27 (by decide) ?_
  refine n_icmp_ge (tgt := 64) dX5_run_29 (by decide) (by decide) (by decide) (fun c_29 => by omega) (fun c_29 => ?_)
  refine a_iload_5 (pc := 32) dX5_run_32 ?_
  refine n_if_le (tgt := 64) dX5_run_34 (by decide) (by decide) (fun c_34 => by omega) (fun c_34 => ?_)
  refine a_gets (pc := 37) (i := 4) (by decide) dX5_run_37 rfl w_895 ?_
  refine a_iload_5 (pc := 40) dX5_run_40 ?_
  refine a_iconst (pc := 42) (v := nI 4) dX5_run_42 (by decide) ?_
  refine n_imul dX5_run_43 ?_
  refine a_iloadn_2 (pc := 44) dX5_run_44 ?_
  refine n_iadd dX5_run_45 ?_
  refine a_sil (pc := 46) 28 (t := 4) (by decide) dX5_run_46 rfl (by decide) ?_
  refine a_topi (nI 0) (by decide) ?_
  refine n_if_ne (tgt := 64) dX5_run_47 (by decide) (by decide) (fun c_47 => by omega) (fun c_47 => ?_)
  refine a_gets (pc := 50) (i := 3) (by decide) dX5_run_50 rfl w_897 ?_
  refine a_iload_5 (pc := 53) dX5_run_53 ?_
  refine a_sil (pc := 55) 7 (t := 3) (by decide) dX5_run_55 rfl (by decide) ?_
  refine a_topi (nI 4) (by decide) ?_
  refine a_istore_5 (pc := 56) dX5_run_56 (by decide) (by first | rfl | trivial) ?_
  refine a_iinc_6 (pc := 58) (v := nI (1)) dX5_run_58 (nI_add _ _) (by decide) (by first | rfl | trivial) ?_
  refine a_goto (pc := 61) (tgt := 25) dX5_run_61 (by decide) ?_
  refine a_iload_6 (pc := 25) dX5_run_25 ?_
  refine a_bipush (pc := 27) (v := nI 8) dX5_run_27 (by decide) ?_
  refine n_icmp_ge (tgt := 64) dX5_run_29 (by decide) (by decide) (by decide) (fun c_29 => by omega) (fun c_29 => ?_)
  refine a_iload_5 (pc := 32) dX5_run_32 ?_
  refine n_if_le (tgt := 64) dX5_run_34 (by decide) (by decide) (fun c_34 => by omega) (fun c_34 => ?_)
  refine a_gets (pc := 37) (i := 4) (by decide) dX5_run_37 rfl w_895 ?_
  refine a_iload_5 (pc := 40) dX5_run_40 ?_
  refine a_iconst (pc := 42) (v := nI 4) dX5_run_42 (by decide) ?_
  refine n_imul dX5_run_43 ?_
  refine a_iloadn_2 (pc := 44) dX5_run_44 ?_
  refine n_iadd dX5_run_45 ?_
  refine a_sil (pc := 46) 16 (t := 4) (by decide) dX5_run_46 rfl (by decide) ?_
  refine a_topi (nI 0) (by decide) ?_
  refine n_if_ne (tgt := 64) dX5_run_47 (by decide) (by decide) (fun c_47 => by omega) (fun c_47 => ?_)
  refine a_gets (pc := 50) (i := 3) (by decide) dX5_run_50 rfl w_897 ?_
  refine a_iload_5 (pc := 53) dX5_run_53 ?_
  refine a_sil (pc := 55) 4 (t := 3) (by decide) dX5_run_55 rfl (by decide) ?_
  refine a_topi (nI 1) (by decide) ?_
  refine a_istore_5 (pc := 56) dX5_run_56 (by decide) (by first | rfl | trivial) ?_
  refine a_iinc_6 (pc := 58) (v := nI (2)) dX5_run_58 (nI_add _ _) (by decide) (by first | rfl | trivial) ?_
  refine a_goto (pc := 61) (tgt := 25) dX5_run_61 (by decide) ?_
  refine a_iload_6 (pc := 25) dX5_run_25 ?_
  refine a_bipush (pc := 27) (v := nI 8) dX5_run_27 (by decide) ?_
  refine n_icmp_ge (tgt := 64) dX5_run_29 (by decide) (by decide) (by decide) (fun c_29 => by omega) (fun c_29 => ?_)
  refine a_iload_5 (pc := 32) dX5_run_32 ?_
  refine n_if_le (tgt := 64) dX5_run_34 (by decide) (by decide) (fun c_34 => by omega) (fun c_34 => ?_)
  refine a_gets (pc := 37) (i := 4) (by decide) dX5_run_37 rfl w_895 ?_
  refine a_iload_5 (pc := 40) dX5_run_40 ?_
  refine a_iconst (pc := 42) (v := nI 4) dX5_run_42 (by decide) ?_
  refine n_imul dX5_run_43 ?_
  refine a_iloadn_2 (pc := 44) dX5_run_44 ?_
  refine n_iadd dX5_run_45 ?_
  refine a_sil (pc := 46) 4 (t := 4) (by decide) dX5_run_46 rfl (by decide) ?_
  refine a_topi (nI 20) (by decide) ?_
  refine n_if_ne (tgt := 64) dX5_run_47 (by decide) (by decide) (fun c_47 => ?_) (fun c_47 => by omega)
  refine a_gets (pc := 64) (i := 4) (by decide) dX5_run_64 rfl w_895 ?_
  refine a_iload_5 (pc := 67) dX5_run_67 ?_
  refine a_iconst (pc := 69) (v := nI 4) dX5_run_69 (by decide) ?_
  refine n_imul dX5_run_70 ?_
  refine a_iloadn_2 (pc := 71) dX5_run_71 ?_
  refine n_iadd dX5_run_72 ?_
  refine a_sil (pc := 73) 4 (t := 4) (by decide) dX5_run_73 rfl (by decide) ?_
  refine a_topi (nI 20) (by decide) ?_
  refine a_istore_6 (pc := 74) dX5_run_74 (by decide) (by first | rfl | trivial) ?_
  refine a_aloadn_0 (pc := 76) dX5_run_76 ?_
  refine kg_29 (x := s.2) hm rfl dX5_run_77 rfl ?_
  refine a_bipush (pc := 80) (v := nI 24) dX5_run_80 (by decide) ?_
  refine n_icmp_ge (tgt := 96) dX5_run_82 (by decide) (by omega) (by decide) (fun c_82 => ?_) (fun c_82 => ?_)
  · have e9 : (rn s 20) = (s.1, s.2 + 1) := by unfold rn; rw [if_neg (by omega)]
    refine a_aloadn_0 (pc := 96) dX5_run_96 ?_
    refine a_dup (pc := 97) dX5_run_97 rfl ?_
    refine kg_29 (x := s.2) hm rfl dX5_run_98 rfl ?_
    refine a_iconst (pc := 101) (v := nI 1) dX5_run_101 (by decide) ?_
    refine n_iadd dX5_run_102 ?_
    refine kp_29 (x := s.2 + 1) hm rfl dX5_run_103 (fun h1 hm1 => ?_)
    have hm9 : SU G h0 h1 a (rn s 20) := by rw [e9]; exact hm1
    have er : (rn s 20).2 = s.2 + 1 := rfl
    refine a_iload_5 (pc := 106) dX5_run_106 ?_
    refine n_if_ne (tgt := 125) dX5_run_108 (by decide) (by decide) (fun c_108 => ?_) (fun c_108 => by omega)
    refine a_aloadn_0 (pc := 125) dX5_run_125 ?_
    refine a_iload_6 (pc := 126) dX5_run_126 ?_
    refine a_iload_5 (pc := 128) dX5_run_128 ?_
    refine a_iloadn_3 (pc := 130) dX5_run_130 ?_
    refine a_iload_4 (pc := 131) dX5_run_131 ?_
    refine a_iconst (pc := 133) (v := nI 1) dX5_run_133 (by decide) ?_
    refine n_iadd dX5_run_134 ?_
    refine cv_X5_55 (pc := 135) rfl dX5_run_135 hm9.ob (Nat.le_of_ble_eq_true rfl) ?_
    refine k_body_20 (by omega) hz hm9 hsk (dp := (dp + 1)) (by omega) (by omega) (fun h2 hm2 => ?_)
    exact a_iret (pc := 138) dX5_run_138 rfl (zf hz) (k9 _ (show SU G h0 _ a (rns s (bS a.2.2.1 7 x).2) from hm2))
  · have e9 : (rn s 20) = (va_up s.1 s.2 20, s.2 + 1) := by unfold rn; rw [if_pos c_82]
    refine a_aloadn_0 (pc := 85) dX5_run_85 ?_
    refine kg_15 hm rfl dX5_run_86 ?_
    refine a_aloadn_0 (pc := 89) dX5_run_89 ?_
    refine kg_29 (x := s.2) hm rfl dX5_run_90 rfl ?_
    refine a_iload_6 (pc := 93) dX5_run_93 ?_
    refine ks_trace (j := s.2) (x := 20) hm dX5_run_95 (by omega) (fun h1 hm1 => ?_)
    refine a_aloadn_0 (pc := 96) dX5_run_96 ?_
    refine a_dup (pc := 97) dX5_run_97 rfl ?_
    refine kg_29 (x := ((va_up s.1 s.2 20, s.2)).2) hm1 rfl dX5_run_98 rfl ?_
    refine a_iconst (pc := 101) (v := nI 1) dX5_run_101 (by decide) ?_
    refine n_iadd dX5_run_102 ?_
    refine kp_29 (x := ((va_up s.1 s.2 20, s.2)).2 + 1) hm1 rfl dX5_run_103 (fun h2 hm2 => ?_)
    have hm9 : SU G h0 h2 a (rn s 20) := by rw [e9]; exact hm2
    have er : (rn s 20).2 = s.2 + 1 := rfl
    refine a_iload_5 (pc := 106) dX5_run_106 ?_
    refine n_if_ne (tgt := 125) dX5_run_108 (by decide) (by decide) (fun c_108 => ?_) (fun c_108 => by omega)
    refine a_aloadn_0 (pc := 125) dX5_run_125 ?_
    refine a_iload_6 (pc := 126) dX5_run_126 ?_
    refine a_iload_5 (pc := 128) dX5_run_128 ?_
    refine a_iloadn_3 (pc := 130) dX5_run_130 ?_
    refine a_iload_4 (pc := 131) dX5_run_131 ?_
    refine a_iconst (pc := 133) (v := nI 1) dX5_run_133 (by decide) ?_
    refine n_iadd dX5_run_134 ?_
    refine cv_X5_55 (pc := 135) rfl dX5_run_135 hm9.ob (Nat.le_of_ble_eq_true rfl) ?_
    refine k_body_20 (by omega) hz hm9 hsk (dp := (dp + 1)) (by omega) (by omega) (fun h3 hm3 => ?_)
    exact a_iret (pc := 138) dX5_run_138 rfl (zf hz) (k9 _ (show SU G h0 _ a (rns s (bS a.2.2.1 7 x).2) from hm3))
theorem k_run0 {G : Cx} {d : Nat} {h h0 : List va_E} {a : Su} {s : Rn} {Q : Option Value → List va_E → Prop} (hd : 4 ≤ d) (hz : gz G = false) (hm : SU G h0 h a s) (hsk : a.2.2.2 < 8) {k : Nat} (hk : k < 8) {x : Int32} {dp : Nat} (hdp : dp ≤ 39) (hr : s.2 < 990) (k9 : ∀ h1, SU G h0 h1 a (rns s (bS a.2.2.1 k x).2) → Q (some (.int (bS a.2.2.1 k x).1)) h1) : AM G yX5_run cX5_run 7 (some .int) d 0 0 [.ref (gB G + 62), .int (nI k), .int (nI 0), .int x, .int (nI dp)] h Q := by
  rcases k8 hk with rfl | rfl | rfl | rfl | rfl | rfl | rfl | rfl
  · exact k_run0_0 (by omega) hz hm hsk (by omega) (by omega) k9
  · exact k_run0_1 (by omega) hz hm hsk (by omega) (by omega) k9
  · exact k_run0_2 (by omega) hz hm hsk (by omega) (by omega) k9
  · exact k_run0_3 (by omega) hz hm hsk (by omega) (by omega) k9
  · exact k_run0_4 (by omega) hz hm hsk (by omega) (by omega) k9
  · exact k_run0_5 (by omega) hz hm hsk (by omega) (by omega) k9
  · exact k_run0_6 (by omega) hz hm hsk (by omega) (by omega) k9
  · exact k_run0_7 (by omega) hz hm hsk (by omega) (by omega) k9
set_option maxRecDepth 100000 in
set_option maxHeartbeats 4000000 in
theorem k_body_11 {G : Cx} {d : Nat} {h h0 : List va_E} {a : Su} {s : Rn} {Q : Option Value → List va_E → Prop} (hd : 1 ≤ d) (hz : gz G = false) (hm : SU G h0 h a s) (hsk : a.2.2.2 < 8) {x : Int32} {dp : Nat} (hdp : dp ≤ 41) (hr : s.2 < 1000) (k9 : ∀ h1, SU G h0 h1 a (rns s (tp11 a x).2) → Q (some (.int (tp11 a x).1)) h1) : AM G yX5_runTop cX5_runTop 4 (some .int) d 0 0 [.ref (gB G + 62), .int (nI (11)), .int (x), .int (nI (dp))] h Q := by
  obtain ⟨d, rfl, he⟩ := dpos hd
  refine AM.of [some (.ref (gB G + 62)), some (.int (nI (11))), some (.int (x)), some (.int (nI (dp)))] pnX5 (Nat.le_of_ble_eq_true rfl) (by simp [lsub, lvI, Value.category]) ?_
  refine a_iloadn_1 (pc := 0) dX5_runTop_0 ?_
  refine a_lookup (pc := 1) (off := 88) (tgt := 89) dX5_runTop_1 (by decide) (by decide) (by decide) ?_
  refine a_iloadn_2 (pc := 89) dX5_runTop_89 ?_
  refine a_aloadn_0 (pc := 90) dX5_runTop_90 ?_
  refine kg_38 (x := a.2.2.1) hm rfl dX5_runTop_91 rfl ?_
  refine a_ixor (pc := 94) dX5_runTop_94 ?_
  exact a_iret (pc := 95) dX5_runTop_95 rfl (zf hz) (k9 _ (by rw [show rns s (tp11 a x).2 = s from (by first | rfl | exact rns_app _ _ _)]; exact hm))
set_option maxRecDepth 100000 in
set_option maxHeartbeats 4000000 in
theorem k_run2_0 {G : Cx} {d : Nat} {h h0 : List va_E} {a : Su} {s : Rn} {Q : Option Value → List va_E → Prop} (hd : 2 ≤ d) (hz : gz G = false) (hm : SU G h0 h a s) (hsk : a.2.2.2 < 8) {x : Int32} {dp : Nat} (hdp : dp ≤ 40) (hr : s.2 < 999) (k9 : ∀ h1, SU G h0 h1 a (rns s (lS a.2.2.1 a.2.2.2 0 x).2) → Q (some (.int (lS a.2.2.1 a.2.2.2 0 x).1)) h1) : AM G yX5_run cX5_run 7 (some .int) d 0 0 [.ref (gB G + 62), .int (nI (0)), .int (nI (2)), .int (x), .int (nI (dp))] h Q := by
  obtain ⟨d, rfl, he⟩ := dpos hd
  refine AM.of [some (.ref (gB G + 62)), some (.int (nI (0))), some (.int (nI (2))), some (.int (x)), some (.int (nI (dp))), none, none] pnX5 (Nat.le_of_ble_eq_true rfl) (by simp [lsub, lvI, Value.category]) ?_
  refine a_iload_4 (pc := 0) dX5_run_0 ?_
  refine a_bipush (pc := 2) (v := nI 40) dX5_run_2 (by decide) ?_
  refine n_icmp_gt (tgt := 17) dX5_run_4 (by decide) (by omega) (by decide) (fun c_4 => by omega) (fun c_4 => ?_)
  refine a_iloadn_1 (pc := 7) dX5_run_7 ?_
  refine a_iconst (pc := 8) (v := nI 0) dX5_run_8 (by decide) ?_
  refine a_bipush (pc := 9) (v := nI 7) dX5_run_9 (by decide) ?_
  refine cs_X5_22 (pc := 11) rfl dX5_run_11 (Nat.le_of_ble_eq_true rfl) ?_
  refine x_within (by omega) hz ?_
  refine a_topi (bI true) (by decide) ?_
  refine b_if_ne (pc := 14) (tgt := 19) dX5_run_14 (by decide) (fun c_14 => ?_) (fun c_14 => by cases c_14)
  refine a_iloadn_1 (pc := 19) dX5_run_19 ?_
  refine a_istore_5 (pc := 20) dX5_run_20 (by decide) (by first | rfl | trivial) ?_
  refine a_iconst (pc := 22) (v := nI 0) dX5_run_22 (by decide) ?_
  refine a_istore_6 (pc := 23) dX5_run_23 (by decide) (by first | rfl | trivial) ?_
  refine a_iload_6 (pc := 25) dX5_run_25 ?_
  refine a_bipush (pc := 27) (v := nI 8) dX5_run_27 (by decide) ?_
  refine n_icmp_ge (tgt := 64) dX5_run_29 (by decide) (by decide) (by decide) (fun c_29 => by omega) (fun c_29 => ?_)
  refine a_iload_5 (pc := 32) dX5_run_32 ?_
  refine n_if_le (tgt := 64) dX5_run_34 (by decide) (by decide) (fun c_34 => ?_) (fun c_34 => by omega)
  refine a_gets (pc := 64) (i := 4) (by decide) dX5_run_64 rfl w_895 ?_
  refine a_iload_5 (pc := 67) dX5_run_67 ?_
  refine a_iconst (pc := 69) (v := nI 4) dX5_run_69 (by decide) ?_
  refine n_imul dX5_run_70 ?_
  refine a_iloadn_2 (pc := 71) dX5_run_71 ?_
  refine n_iadd dX5_run_72 ?_
  refine a_sil (pc := 73) 2 (t := 4) (by decide) dX5_run_73 rfl (by decide) ?_
  refine a_topi (nI 11) (by decide) ?_
  refine a_istore_6 (pc := 74) dX5_run_74 (by decide) (by first | rfl | trivial) ?_
  refine a_aloadn_0 (pc := 76) dX5_run_76 ?_
  refine kg_29 (x := s.2) hm rfl dX5_run_77 rfl ?_
  refine a_bipush (pc := 80) (v := nI 24) dX5_run_80 (by decide) ?_
  refine n_icmp_ge (tgt := 96) dX5_run_82 (by decide) (by omega) (by decide) (fun c_82 => ?_) (fun c_82 => ?_)
  · have e9 : (rn s 11) = (s.1, s.2 + 1) := by unfold rn; rw [if_neg (by omega)]
    refine a_aloadn_0 (pc := 96) dX5_run_96 ?_
    refine a_dup (pc := 97) dX5_run_97 rfl ?_
    refine kg_29 (x := s.2) hm rfl dX5_run_98 rfl ?_
    refine a_iconst (pc := 101) (v := nI 1) dX5_run_101 (by decide) ?_
    refine n_iadd dX5_run_102 ?_
    refine kp_29 (x := s.2 + 1) hm rfl dX5_run_103 (fun h1 hm1 => ?_)
    have hm9 : SU G h0 h1 a (rn s 11) := by rw [e9]; exact hm1
    have er : (rn s 11).2 = s.2 + 1 := rfl
    refine a_iload_5 (pc := 106) dX5_run_106 ?_
    refine n_if_ne (tgt := 125) dX5_run_108 (by decide) (by decide) (fun c_108 => by omega) (fun c_108 => ?_)
    refine a_aloadn_0 (pc := 111) dX5_run_111 ?_
    refine a_iload_6 (pc := 112) dX5_run_112 ?_
    refine a_iloadn_3 (pc := 114) dX5_run_114 ?_
    refine a_iload_4 (pc := 115) dX5_run_115 ?_
    refine a_iconst (pc := 117) (v := nI 1) dX5_run_117 (by decide) ?_
    refine n_iadd dX5_run_118 ?_
    refine cv_X5_51 (pc := 119) rfl dX5_run_119 hm9.ob (Nat.le_of_ble_eq_true rfl) ?_
    refine k_body_11 (by omega) hz hm9 hsk (dp := (dp + 1)) (by omega) (by omega) (fun h2 hm2 => ?_)
    refine a_goto (pc := 122) (tgt := 138) dX5_run_122 (by decide) ?_
    exact a_iret (pc := 138) dX5_run_138 rfl (zf hz) (k9 _ (show SU G h0 _ a (rns s (lS a.2.2.1 a.2.2.2 0 x).2) from hm2))
  · have e9 : (rn s 11) = (va_up s.1 s.2 11, s.2 + 1) := by unfold rn; rw [if_pos c_82]
    refine a_aloadn_0 (pc := 85) dX5_run_85 ?_
    refine kg_15 hm rfl dX5_run_86 ?_
    refine a_aloadn_0 (pc := 89) dX5_run_89 ?_
    refine kg_29 (x := s.2) hm rfl dX5_run_90 rfl ?_
    refine a_iload_6 (pc := 93) dX5_run_93 ?_
    refine ks_trace (j := s.2) (x := 11) hm dX5_run_95 (by omega) (fun h1 hm1 => ?_)
    refine a_aloadn_0 (pc := 96) dX5_run_96 ?_
    refine a_dup (pc := 97) dX5_run_97 rfl ?_
    refine kg_29 (x := ((va_up s.1 s.2 11, s.2)).2) hm1 rfl dX5_run_98 rfl ?_
    refine a_iconst (pc := 101) (v := nI 1) dX5_run_101 (by decide) ?_
    refine n_iadd dX5_run_102 ?_
    refine kp_29 (x := ((va_up s.1 s.2 11, s.2)).2 + 1) hm1 rfl dX5_run_103 (fun h2 hm2 => ?_)
    have hm9 : SU G h0 h2 a (rn s 11) := by rw [e9]; exact hm2
    have er : (rn s 11).2 = s.2 + 1 := rfl
    refine a_iload_5 (pc := 106) dX5_run_106 ?_
    refine n_if_ne (tgt := 125) dX5_run_108 (by decide) (by decide) (fun c_108 => by omega) (fun c_108 => ?_)
    refine a_aloadn_0 (pc := 111) dX5_run_111 ?_
    refine a_iload_6 (pc := 112) dX5_run_112 ?_
    refine a_iloadn_3 (pc := 114) dX5_run_114 ?_
    refine a_iload_4 (pc := 115) dX5_run_115 ?_
    refine a_iconst (pc := 117) (v := nI 1) dX5_run_117 (by decide) ?_
    refine n_iadd dX5_run_118 ?_
    refine cv_X5_51 (pc := 119) rfl dX5_run_119 hm9.ob (Nat.le_of_ble_eq_true rfl) ?_
    refine k_body_11 (by omega) hz hm9 hsk (dp := (dp + 1)) (by omega) (by omega) (fun h3 hm3 => ?_)
    refine a_goto (pc := 122) (tgt := 138) dX5_run_122 (by decide) ?_
    exact a_iret (pc := 138) dX5_run_138 rfl (zf hz) (k9 _ (show SU G h0 _ a (rns s (lS a.2.2.1 a.2.2.2 0 x).2) from hm3))
set_option maxRecDepth 100000 in
set_option maxHeartbeats 4000000 in
theorem k_run2_1 {G : Cx} {d : Nat} {h h0 : List va_E} {a : Su} {s : Rn} {Q : Option Value → List va_E → Prop} (hd : 2 ≤ d) (hz : gz G = false) (hm : SU G h0 h a s) (hsk : a.2.2.2 < 8) {x : Int32} {dp : Nat} (hdp : dp ≤ 40) (hr : s.2 < 999) (k9 : ∀ h1, SU G h0 h1 a (rns s (lS a.2.2.1 a.2.2.2 1 x).2) → Q (some (.int (lS a.2.2.1 a.2.2.2 1 x).1)) h1) : AM G yX5_run cX5_run 7 (some .int) d 0 0 [.ref (gB G + 62), .int (nI (1)), .int (nI (2)), .int (x), .int (nI (dp))] h Q := by
  obtain ⟨d, rfl, he⟩ := dpos hd
  refine AM.of [some (.ref (gB G + 62)), some (.int (nI (1))), some (.int (nI (2))), some (.int (x)), some (.int (nI (dp))), none, none] pnX5 (Nat.le_of_ble_eq_true rfl) (by simp [lsub, lvI, Value.category]) ?_
  refine a_iload_4 (pc := 0) dX5_run_0 ?_
  refine a_bipush (pc := 2) (v := nI 40) dX5_run_2 (by decide) ?_
  refine n_icmp_gt (tgt := 17) dX5_run_4 (by decide) (by omega) (by decide) (fun c_4 => by omega) (fun c_4 => ?_)
  refine a_iloadn_1 (pc := 7) dX5_run_7 ?_
  refine a_iconst (pc := 8) (v := nI 0) dX5_run_8 (by decide) ?_
  refine a_bipush (pc := 9) (v := nI 7) dX5_run_9 (by decide) ?_
  refine cs_X5_22 (pc := 11) rfl dX5_run_11 (Nat.le_of_ble_eq_true rfl) ?_
  refine x_within (by omega) hz ?_
  refine a_topi (bI true) (by decide) ?_
  refine b_if_ne (pc := 14) (tgt := 19) dX5_run_14 (by decide) (fun c_14 => ?_) (fun c_14 => by cases c_14)
  refine a_iloadn_1 (pc := 19) dX5_run_19 ?_
  refine a_istore_5 (pc := 20) dX5_run_20 (by decide) (by first | rfl | trivial) ?_
  refine a_iconst (pc := 22) (v := nI 0) dX5_run_22 (by decide) ?_
  refine a_istore_6 (pc := 23) dX5_run_23 (by decide) (by first | rfl | trivial) ?_
  refine a_iload_6 (pc := 25) dX5_run_25 ?_
  refine a_bipush (pc := 27) (v := nI 8) dX5_run_27 (by decide) ?_
  refine n_icmp_ge (tgt := 64) dX5_run_29 (by decide) (by decide) (by decide) (fun c_29 => by omega) (fun c_29 => ?_)
  refine a_iload_5 (pc := 32) dX5_run_32 ?_
  refine n_if_le (tgt := 64) dX5_run_34 (by decide) (by decide) (fun c_34 => by omega) (fun c_34 => ?_)
  refine a_gets (pc := 37) (i := 4) (by decide) dX5_run_37 rfl w_895 ?_
  refine a_iload_5 (pc := 40) dX5_run_40 ?_
  refine a_iconst (pc := 42) (v := nI 4) dX5_run_42 (by decide) ?_
  refine n_imul dX5_run_43 ?_
  refine a_iloadn_2 (pc := 44) dX5_run_44 ?_
  refine n_iadd dX5_run_45 ?_
  refine a_sil (pc := 46) 6 (t := 4) (by decide) dX5_run_46 rfl (by decide) ?_
  refine a_topi (nI 0) (by decide) ?_
  refine n_if_ne (tgt := 64) dX5_run_47 (by decide) (by decide) (fun c_47 => by omega) (fun c_47 => ?_)
  refine a_gets (pc := 50) (i := 3) (by decide) dX5_run_50 rfl w_897 ?_
  refine a_iload_5 (pc := 53) dX5_run_53 ?_
  refine a_sil (pc := 55) 1 (t := 3) (by decide) dX5_run_55 rfl (by decide) ?_
  refine a_topi (nI 0) (by decide) ?_
  refine a_istore_5 (pc := 56) dX5_run_56 (by decide) (by first | rfl | trivial) ?_
  refine a_iinc_6 (pc := 58) (v := nI (1)) dX5_run_58 (nI_add _ _) (by decide) (by first | rfl | trivial) ?_
  refine a_goto (pc := 61) (tgt := 25) dX5_run_61 (by decide) ?_
  refine a_iload_6 (pc := 25) dX5_run_25 ?_
  refine a_bipush (pc := 27) (v := nI 8) dX5_run_27 (by decide) ?_
  refine n_icmp_ge (tgt := 64) dX5_run_29 (by decide) (by decide) (by decide) (fun c_29 => by omega) (fun c_29 => ?_)
  refine a_iload_5 (pc := 32) dX5_run_32 ?_
  refine n_if_le (tgt := 64) dX5_run_34 (by decide) (by decide) (fun c_34 => ?_) (fun c_34 => by omega)
  refine a_gets (pc := 64) (i := 4) (by decide) dX5_run_64 rfl w_895 ?_
  refine a_iload_5 (pc := 67) dX5_run_67 ?_
  refine a_iconst (pc := 69) (v := nI 4) dX5_run_69 (by decide) ?_
  refine n_imul dX5_run_70 ?_
  refine a_iloadn_2 (pc := 71) dX5_run_71 ?_
  refine n_iadd dX5_run_72 ?_
  refine a_sil (pc := 73) 2 (t := 4) (by decide) dX5_run_73 rfl (by decide) ?_
  refine a_topi (nI 11) (by decide) ?_
  refine a_istore_6 (pc := 74) dX5_run_74 (by decide) (by first | rfl | trivial) ?_
  refine a_aloadn_0 (pc := 76) dX5_run_76 ?_
  refine kg_29 (x := s.2) hm rfl dX5_run_77 rfl ?_
  refine a_bipush (pc := 80) (v := nI 24) dX5_run_80 (by decide) ?_
  refine n_icmp_ge (tgt := 96) dX5_run_82 (by decide) (by omega) (by decide) (fun c_82 => ?_) (fun c_82 => ?_)
  · have e9 : (rn s 11) = (s.1, s.2 + 1) := by unfold rn; rw [if_neg (by omega)]
    refine a_aloadn_0 (pc := 96) dX5_run_96 ?_
    refine a_dup (pc := 97) dX5_run_97 rfl ?_
    refine kg_29 (x := s.2) hm rfl dX5_run_98 rfl ?_
    refine a_iconst (pc := 101) (v := nI 1) dX5_run_101 (by decide) ?_
    refine n_iadd dX5_run_102 ?_
    refine kp_29 (x := s.2 + 1) hm rfl dX5_run_103 (fun h1 hm1 => ?_)
    have hm9 : SU G h0 h1 a (rn s 11) := by rw [e9]; exact hm1
    have er : (rn s 11).2 = s.2 + 1 := rfl
    refine a_iload_5 (pc := 106) dX5_run_106 ?_
    refine n_if_ne (tgt := 125) dX5_run_108 (by decide) (by decide) (fun c_108 => by omega) (fun c_108 => ?_)
    refine a_aloadn_0 (pc := 111) dX5_run_111 ?_
    refine a_iload_6 (pc := 112) dX5_run_112 ?_
    refine a_iloadn_3 (pc := 114) dX5_run_114 ?_
    refine a_iload_4 (pc := 115) dX5_run_115 ?_
    refine a_iconst (pc := 117) (v := nI 1) dX5_run_117 (by decide) ?_
    refine n_iadd dX5_run_118 ?_
    refine cv_X5_51 (pc := 119) rfl dX5_run_119 hm9.ob (Nat.le_of_ble_eq_true rfl) ?_
    refine k_body_11 (by omega) hz hm9 hsk (dp := (dp + 1)) (by omega) (by omega) (fun h2 hm2 => ?_)
    refine a_goto (pc := 122) (tgt := 138) dX5_run_122 (by decide) ?_
    exact a_iret (pc := 138) dX5_run_138 rfl (zf hz) (k9 _ (show SU G h0 _ a (rns s (lS a.2.2.1 a.2.2.2 1 x).2) from hm2))
  · have e9 : (rn s 11) = (va_up s.1 s.2 11, s.2 + 1) := by unfold rn; rw [if_pos c_82]
    refine a_aloadn_0 (pc := 85) dX5_run_85 ?_
    refine kg_15 hm rfl dX5_run_86 ?_
    refine a_aloadn_0 (pc := 89) dX5_run_89 ?_
    refine kg_29 (x := s.2) hm rfl dX5_run_90 rfl ?_
    refine a_iload_6 (pc := 93) dX5_run_93 ?_
    refine ks_trace (j := s.2) (x := 11) hm dX5_run_95 (by omega) (fun h1 hm1 => ?_)
    refine a_aloadn_0 (pc := 96) dX5_run_96 ?_
    refine a_dup (pc := 97) dX5_run_97 rfl ?_
    refine kg_29 (x := ((va_up s.1 s.2 11, s.2)).2) hm1 rfl dX5_run_98 rfl ?_
    refine a_iconst (pc := 101) (v := nI 1) dX5_run_101 (by decide) ?_
    refine n_iadd dX5_run_102 ?_
    refine kp_29 (x := ((va_up s.1 s.2 11, s.2)).2 + 1) hm1 rfl dX5_run_103 (fun h2 hm2 => ?_)
    have hm9 : SU G h0 h2 a (rn s 11) := by rw [e9]; exact hm2
    have er : (rn s 11).2 = s.2 + 1 := rfl
    refine a_iload_5 (pc := 106) dX5_run_106 ?_
    refine n_if_ne (tgt := 125) dX5_run_108 (by decide) (by decide) (fun c_108 => by omega) (fun c_108 => ?_)
    refine a_aloadn_0 (pc := 111) dX5_run_111 ?_
    refine a_iload_6 (pc := 112) dX5_run_112 ?_
    refine a_iloadn_3 (pc := 114) dX5_run_114 ?_
    refine a_iload_4 (pc := 115) dX5_run_115 ?_
    refine a_iconst (pc := 117) (v := nI 1) dX5_run_117 (by decide) ?_
    refine n_iadd dX5_run_118 ?_
    refine cv_X5_51 (pc := 119) rfl dX5_run_119 hm9.ob (Nat.le_of_ble_eq_true rfl) ?_
    refine k_body_11 (by omega) hz hm9 hsk (dp := (dp + 1)) (by omega) (by omega) (fun h3 hm3 => ?_)
    refine a_goto (pc := 122) (tgt := 138) dX5_run_122 (by decide) ?_
    exact a_iret (pc := 138) dX5_run_138 rfl (zf hz) (k9 _ (show SU G h0 _ a (rns s (lS a.2.2.1 a.2.2.2 1 x).2) from hm3))
set_option maxRecDepth 100000 in
set_option maxHeartbeats 4000000 in
theorem k_run2_2 {G : Cx} {d : Nat} {h h0 : List va_E} {a : Su} {s : Rn} {Q : Option Value → List va_E → Prop} (hd : 2 ≤ d) (hz : gz G = false) (hm : SU G h0 h a s) (hsk : a.2.2.2 < 8) {x : Int32} {dp : Nat} (hdp : dp ≤ 40) (hr : s.2 < 999) (k9 : ∀ h1, SU G h0 h1 a (rns s (lS a.2.2.1 a.2.2.2 2 x).2) → Q (some (.int (lS a.2.2.1 a.2.2.2 2 x).1)) h1) : AM G yX5_run cX5_run 7 (some .int) d 0 0 [.ref (gB G + 62), .int (nI (2)), .int (nI (2)), .int (x), .int (nI (dp))] h Q := by
  obtain ⟨d, rfl, he⟩ := dpos hd
  refine AM.of [some (.ref (gB G + 62)), some (.int (nI (2))), some (.int (nI (2))), some (.int (x)), some (.int (nI (dp))), none, none] pnX5 (Nat.le_of_ble_eq_true rfl) (by simp [lsub, lvI, Value.category]) ?_
  refine a_iload_4 (pc := 0) dX5_run_0 ?_
  refine a_bipush (pc := 2) (v := nI 40) dX5_run_2 (by decide) ?_
  refine n_icmp_gt (tgt := 17) dX5_run_4 (by decide) (by omega) (by decide) (fun c_4 => by omega) (fun c_4 => ?_)
  refine a_iloadn_1 (pc := 7) dX5_run_7 ?_
  refine a_iconst (pc := 8) (v := nI 0) dX5_run_8 (by decide) ?_
  refine a_bipush (pc := 9) (v := nI 7) dX5_run_9 (by decide) ?_
  refine cs_X5_22 (pc := 11) rfl dX5_run_11 (Nat.le_of_ble_eq_true rfl) ?_
  refine x_within (by omega) hz ?_
  refine a_topi (bI true) (by decide) ?_
  refine b_if_ne (pc := 14) (tgt := 19) dX5_run_14 (by decide) (fun c_14 => ?_) (fun c_14 => by cases c_14)
  refine a_iloadn_1 (pc := 19) dX5_run_19 ?_
  refine a_istore_5 (pc := 20) dX5_run_20 (by decide) (by first | rfl | trivial) ?_
  refine a_iconst (pc := 22) (v := nI 0) dX5_run_22 (by decide) ?_
  refine a_istore_6 (pc := 23) dX5_run_23 (by decide) (by first | rfl | trivial) ?_
  refine a_iload_6 (pc := 25) dX5_run_25 ?_
  refine a_bipush (pc := 27) (v := nI 8) dX5_run_27 (by decide) ?_
  refine n_icmp_ge (tgt := 64) dX5_run_29 (by decide) (by decide) (by decide) (fun c_29 => by omega) (fun c_29 => ?_)
  refine a_iload_5 (pc := 32) dX5_run_32 ?_
  refine n_if_le (tgt := 64) dX5_run_34 (by decide) (by decide) (fun c_34 => by omega) (fun c_34 => ?_)
  refine a_gets (pc := 37) (i := 4) (by decide) dX5_run_37 rfl w_895 ?_
  refine a_iload_5 (pc := 40) dX5_run_40 ?_
  refine a_iconst (pc := 42) (v := nI 4) dX5_run_42 (by decide) ?_
  refine n_imul dX5_run_43 ?_
  refine a_iloadn_2 (pc := 44) dX5_run_44 ?_
  refine n_iadd dX5_run_45 ?_
  refine a_sil (pc := 46) 10 (t := 4) (by decide) dX5_run_46 rfl (by decide) ?_
  refine a_topi (nI 0) (by decide) ?_
  refine n_if_ne (tgt := 64) dX5_run_47 (by decide) (by decide) (fun c_47 => by omega) (fun c_47 => ?_)
  refine a_gets (pc := 50) (i := 3) (by decide) dX5_run_50 rfl w_897 ?_
  refine a_iload_5 (pc := 53) dX5_run_53 ?_
  refine a_sil (pc := 55) 2 (t := 3) (by decide) dX5_run_55 rfl (by decide) ?_
  refine a_topi (nI 0) (by decide) ?_
  refine a_istore_5 (pc := 56) dX5_run_56 (by decide) (by first | rfl | trivial) ?_
  refine a_iinc_6 (pc := 58) (v := nI (1)) dX5_run_58 (nI_add _ _) (by decide) (by first | rfl | trivial) ?_
  refine a_goto (pc := 61) (tgt := 25) dX5_run_61 (by decide) ?_
  refine a_iload_6 (pc := 25) dX5_run_25 ?_
  refine a_bipush (pc := 27) (v := nI 8) dX5_run_27 (by decide) ?_
  refine n_icmp_ge (tgt := 64) dX5_run_29 (by decide) (by decide) (by decide) (fun c_29 => by omega) (fun c_29 => ?_)
  refine a_iload_5 (pc := 32) dX5_run_32 ?_
  refine n_if_le (tgt := 64) dX5_run_34 (by decide) (by decide) (fun c_34 => ?_) (fun c_34 => by omega)
  refine a_gets (pc := 64) (i := 4) (by decide) dX5_run_64 rfl w_895 ?_
  refine a_iload_5 (pc := 67) dX5_run_67 ?_
  refine a_iconst (pc := 69) (v := nI 4) dX5_run_69 (by decide) ?_
  refine n_imul dX5_run_70 ?_
  refine a_iloadn_2 (pc := 71) dX5_run_71 ?_
  refine n_iadd dX5_run_72 ?_
  refine a_sil (pc := 73) 2 (t := 4) (by decide) dX5_run_73 rfl (by decide) ?_
  refine a_topi (nI 11) (by decide) ?_
  refine a_istore_6 (pc := 74) dX5_run_74 (by decide) (by first | rfl | trivial) ?_
  refine a_aloadn_0 (pc := 76) dX5_run_76 ?_
  refine kg_29 (x := s.2) hm rfl dX5_run_77 rfl ?_
  refine a_bipush (pc := 80) (v := nI 24) dX5_run_80 (by decide) ?_
  refine n_icmp_ge (tgt := 96) dX5_run_82 (by decide) (by omega) (by decide) (fun c_82 => ?_) (fun c_82 => ?_)
  · have e9 : (rn s 11) = (s.1, s.2 + 1) := by unfold rn; rw [if_neg (by omega)]
    refine a_aloadn_0 (pc := 96) dX5_run_96 ?_
    refine a_dup (pc := 97) dX5_run_97 rfl ?_
    refine kg_29 (x := s.2) hm rfl dX5_run_98 rfl ?_
    refine a_iconst (pc := 101) (v := nI 1) dX5_run_101 (by decide) ?_
    refine n_iadd dX5_run_102 ?_
    refine kp_29 (x := s.2 + 1) hm rfl dX5_run_103 (fun h1 hm1 => ?_)
    have hm9 : SU G h0 h1 a (rn s 11) := by rw [e9]; exact hm1
    have er : (rn s 11).2 = s.2 + 1 := rfl
    refine a_iload_5 (pc := 106) dX5_run_106 ?_
    refine n_if_ne (tgt := 125) dX5_run_108 (by decide) (by decide) (fun c_108 => by omega) (fun c_108 => ?_)
    refine a_aloadn_0 (pc := 111) dX5_run_111 ?_
    refine a_iload_6 (pc := 112) dX5_run_112 ?_
    refine a_iloadn_3 (pc := 114) dX5_run_114 ?_
    refine a_iload_4 (pc := 115) dX5_run_115 ?_
    refine a_iconst (pc := 117) (v := nI 1) dX5_run_117 (by decide) ?_
    refine n_iadd dX5_run_118 ?_
    refine cv_X5_51 (pc := 119) rfl dX5_run_119 hm9.ob (Nat.le_of_ble_eq_true rfl) ?_
    refine k_body_11 (by omega) hz hm9 hsk (dp := (dp + 1)) (by omega) (by omega) (fun h2 hm2 => ?_)
    refine a_goto (pc := 122) (tgt := 138) dX5_run_122 (by decide) ?_
    exact a_iret (pc := 138) dX5_run_138 rfl (zf hz) (k9 _ (show SU G h0 _ a (rns s (lS a.2.2.1 a.2.2.2 2 x).2) from hm2))
  · have e9 : (rn s 11) = (va_up s.1 s.2 11, s.2 + 1) := by unfold rn; rw [if_pos c_82]
    refine a_aloadn_0 (pc := 85) dX5_run_85 ?_
    refine kg_15 hm rfl dX5_run_86 ?_
    refine a_aloadn_0 (pc := 89) dX5_run_89 ?_
    refine kg_29 (x := s.2) hm rfl dX5_run_90 rfl ?_
    refine a_iload_6 (pc := 93) dX5_run_93 ?_
    refine ks_trace (j := s.2) (x := 11) hm dX5_run_95 (by omega) (fun h1 hm1 => ?_)
    refine a_aloadn_0 (pc := 96) dX5_run_96 ?_
    refine a_dup (pc := 97) dX5_run_97 rfl ?_
    refine kg_29 (x := ((va_up s.1 s.2 11, s.2)).2) hm1 rfl dX5_run_98 rfl ?_
    refine a_iconst (pc := 101) (v := nI 1) dX5_run_101 (by decide) ?_
    refine n_iadd dX5_run_102 ?_
    refine kp_29 (x := ((va_up s.1 s.2 11, s.2)).2 + 1) hm1 rfl dX5_run_103 (fun h2 hm2 => ?_)
    have hm9 : SU G h0 h2 a (rn s 11) := by rw [e9]; exact hm2
    have er : (rn s 11).2 = s.2 + 1 := rfl
    refine a_iload_5 (pc := 106) dX5_run_106 ?_
    refine n_if_ne (tgt := 125) dX5_run_108 (by decide) (by decide) (fun c_108 => by omega) (fun c_108 => ?_)
    refine a_aloadn_0 (pc := 111) dX5_run_111 ?_
    refine a_iload_6 (pc := 112) dX5_run_112 ?_
    refine a_iloadn_3 (pc := 114) dX5_run_114 ?_
    refine a_iload_4 (pc := 115) dX5_run_115 ?_
    refine a_iconst (pc := 117) (v := nI 1) dX5_run_117 (by decide) ?_
    refine n_iadd dX5_run_118 ?_
    refine cv_X5_51 (pc := 119) rfl dX5_run_119 hm9.ob (Nat.le_of_ble_eq_true rfl) ?_
    refine k_body_11 (by omega) hz hm9 hsk (dp := (dp + 1)) (by omega) (by omega) (fun h3 hm3 => ?_)
    refine a_goto (pc := 122) (tgt := 138) dX5_run_122 (by decide) ?_
    exact a_iret (pc := 138) dX5_run_138 rfl (zf hz) (k9 _ (show SU G h0 _ a (rns s (lS a.2.2.1 a.2.2.2 2 x).2) from hm3))
set_option maxRecDepth 100000 in
set_option maxHeartbeats 4000000 in
theorem k_run2_6 {G : Cx} {d : Nat} {h h0 : List va_E} {a : Su} {s : Rn} {Q : Option Value → List va_E → Prop} (hd : 2 ≤ d) (hz : gz G = false) (hm : SU G h0 h a s) (hsk : a.2.2.2 < 8) {x : Int32} {dp : Nat} (hdp : dp ≤ 40) (hr : s.2 < 999) (k9 : ∀ h1, SU G h0 h1 a (rns s (lS a.2.2.1 a.2.2.2 6 x).2) → Q (some (.int (lS a.2.2.1 a.2.2.2 6 x).1)) h1) : AM G yX5_run cX5_run 7 (some .int) d 0 0 [.ref (gB G + 62), .int (nI (6)), .int (nI (2)), .int (x), .int (nI (dp))] h Q := by
  obtain ⟨d, rfl, he⟩ := dpos hd
  refine AM.of [some (.ref (gB G + 62)), some (.int (nI (6))), some (.int (nI (2))), some (.int (x)), some (.int (nI (dp))), none, none] pnX5 (Nat.le_of_ble_eq_true rfl) (by simp [lsub, lvI, Value.category]) ?_
  refine a_iload_4 (pc := 0) dX5_run_0 ?_
  refine a_bipush (pc := 2) (v := nI 40) dX5_run_2 (by decide) ?_
  refine n_icmp_gt (tgt := 17) dX5_run_4 (by decide) (by omega) (by decide) (fun c_4 => by omega) (fun c_4 => ?_)
  refine a_iloadn_1 (pc := 7) dX5_run_7 ?_
  refine a_iconst (pc := 8) (v := nI 0) dX5_run_8 (by decide) ?_
  refine a_bipush (pc := 9) (v := nI 7) dX5_run_9 (by decide) ?_
  refine cs_X5_22 (pc := 11) rfl dX5_run_11 (Nat.le_of_ble_eq_true rfl) ?_
  refine x_within (by omega) hz ?_
  refine a_topi (bI true) (by decide) ?_
  refine b_if_ne (pc := 14) (tgt := 19) dX5_run_14 (by decide) (fun c_14 => ?_) (fun c_14 => by cases c_14)
  refine a_iloadn_1 (pc := 19) dX5_run_19 ?_
  refine a_istore_5 (pc := 20) dX5_run_20 (by decide) (by first | rfl | trivial) ?_
  refine a_iconst (pc := 22) (v := nI 0) dX5_run_22 (by decide) ?_
  refine a_istore_6 (pc := 23) dX5_run_23 (by decide) (by first | rfl | trivial) ?_
  refine a_iload_6 (pc := 25) dX5_run_25 ?_
  refine a_bipush (pc := 27) (v := nI 8) dX5_run_27 (by decide) ?_
  refine n_icmp_ge (tgt := 64) dX5_run_29 (by decide) (by decide) (by decide) (fun c_29 => by omega) (fun c_29 => ?_)
  refine a_iload_5 (pc := 32) dX5_run_32 ?_
  refine n_if_le (tgt := 64) dX5_run_34 (by decide) (by decide) (fun c_34 => by omega) (fun c_34 => ?_)
  refine a_gets (pc := 37) (i := 4) (by decide) dX5_run_37 rfl w_895 ?_
  refine a_iload_5 (pc := 40) dX5_run_40 ?_
  refine a_iconst (pc := 42) (v := nI 4) dX5_run_42 (by decide) ?_
  refine n_imul dX5_run_43 ?_
  refine a_iloadn_2 (pc := 44) dX5_run_44 ?_
  refine n_iadd dX5_run_45 ?_
  refine a_sil (pc := 46) 26 (t := 4) (by decide) dX5_run_46 rfl (by decide) ?_
  refine a_topi (nI 0) (by decide) ?_
  refine n_if_ne (tgt := 64) dX5_run_47 (by decide) (by decide) (fun c_47 => by omega) (fun c_47 => ?_)
  refine a_gets (pc := 50) (i := 3) (by decide) dX5_run_50 rfl w_897 ?_
  refine a_iload_5 (pc := 53) dX5_run_53 ?_
  refine a_sil (pc := 55) 6 (t := 3) (by decide) dX5_run_55 rfl (by decide) ?_
  refine a_topi (nI 0) (by decide) ?_
  refine a_istore_5 (pc := 56) dX5_run_56 (by decide) (by first | rfl | trivial) ?_
  refine a_iinc_6 (pc := 58) (v := nI (1)) dX5_run_58 (nI_add _ _) (by decide) (by first | rfl | trivial) ?_
  refine a_goto (pc := 61) (tgt := 25) dX5_run_61 (by decide) ?_
  refine a_iload_6 (pc := 25) dX5_run_25 ?_
  refine a_bipush (pc := 27) (v := nI 8) dX5_run_27 (by decide) ?_
  refine n_icmp_ge (tgt := 64) dX5_run_29 (by decide) (by decide) (by decide) (fun c_29 => by omega) (fun c_29 => ?_)
  refine a_iload_5 (pc := 32) dX5_run_32 ?_
  refine n_if_le (tgt := 64) dX5_run_34 (by decide) (by decide) (fun c_34 => ?_) (fun c_34 => by omega)
  refine a_gets (pc := 64) (i := 4) (by decide) dX5_run_64 rfl w_895 ?_
  refine a_iload_5 (pc := 67) dX5_run_67 ?_
  refine a_iconst (pc := 69) (v := nI 4) dX5_run_69 (by decide) ?_
  refine n_imul dX5_run_70 ?_
  refine a_iloadn_2 (pc := 71) dX5_run_71 ?_
  refine n_iadd dX5_run_72 ?_
  refine a_sil (pc := 73) 2 (t := 4) (by decide) dX5_run_73 rfl (by decide) ?_
  refine a_topi (nI 11) (by decide) ?_
  refine a_istore_6 (pc := 74) dX5_run_74 (by decide) (by first | rfl | trivial) ?_
  refine a_aloadn_0 (pc := 76) dX5_run_76 ?_
  refine kg_29 (x := s.2) hm rfl dX5_run_77 rfl ?_
  refine a_bipush (pc := 80) (v := nI 24) dX5_run_80 (by decide) ?_
  refine n_icmp_ge (tgt := 96) dX5_run_82 (by decide) (by omega) (by decide) (fun c_82 => ?_) (fun c_82 => ?_)
  · have e9 : (rn s 11) = (s.1, s.2 + 1) := by unfold rn; rw [if_neg (by omega)]
    refine a_aloadn_0 (pc := 96) dX5_run_96 ?_
    refine a_dup (pc := 97) dX5_run_97 rfl ?_
    refine kg_29 (x := s.2) hm rfl dX5_run_98 rfl ?_
    refine a_iconst (pc := 101) (v := nI 1) dX5_run_101 (by decide) ?_
    refine n_iadd dX5_run_102 ?_
    refine kp_29 (x := s.2 + 1) hm rfl dX5_run_103 (fun h1 hm1 => ?_)
    have hm9 : SU G h0 h1 a (rn s 11) := by rw [e9]; exact hm1
    have er : (rn s 11).2 = s.2 + 1 := rfl
    refine a_iload_5 (pc := 106) dX5_run_106 ?_
    refine n_if_ne (tgt := 125) dX5_run_108 (by decide) (by decide) (fun c_108 => by omega) (fun c_108 => ?_)
    refine a_aloadn_0 (pc := 111) dX5_run_111 ?_
    refine a_iload_6 (pc := 112) dX5_run_112 ?_
    refine a_iloadn_3 (pc := 114) dX5_run_114 ?_
    refine a_iload_4 (pc := 115) dX5_run_115 ?_
    refine a_iconst (pc := 117) (v := nI 1) dX5_run_117 (by decide) ?_
    refine n_iadd dX5_run_118 ?_
    refine cv_X5_51 (pc := 119) rfl dX5_run_119 hm9.ob (Nat.le_of_ble_eq_true rfl) ?_
    refine k_body_11 (by omega) hz hm9 hsk (dp := (dp + 1)) (by omega) (by omega) (fun h2 hm2 => ?_)
    refine a_goto (pc := 122) (tgt := 138) dX5_run_122 (by decide) ?_
    exact a_iret (pc := 138) dX5_run_138 rfl (zf hz) (k9 _ (show SU G h0 _ a (rns s (lS a.2.2.1 a.2.2.2 6 x).2) from hm2))
  · have e9 : (rn s 11) = (va_up s.1 s.2 11, s.2 + 1) := by unfold rn; rw [if_pos c_82]
    refine a_aloadn_0 (pc := 85) dX5_run_85 ?_
    refine kg_15 hm rfl dX5_run_86 ?_
    refine a_aloadn_0 (pc := 89) dX5_run_89 ?_
    refine kg_29 (x := s.2) hm rfl dX5_run_90 rfl ?_
    refine a_iload_6 (pc := 93) dX5_run_93 ?_
    refine ks_trace (j := s.2) (x := 11) hm dX5_run_95 (by omega) (fun h1 hm1 => ?_)
    refine a_aloadn_0 (pc := 96) dX5_run_96 ?_
    refine a_dup (pc := 97) dX5_run_97 rfl ?_
    refine kg_29 (x := ((va_up s.1 s.2 11, s.2)).2) hm1 rfl dX5_run_98 rfl ?_
    refine a_iconst (pc := 101) (v := nI 1) dX5_run_101 (by decide) ?_
    refine n_iadd dX5_run_102 ?_
    refine kp_29 (x := ((va_up s.1 s.2 11, s.2)).2 + 1) hm1 rfl dX5_run_103 (fun h2 hm2 => ?_)
    have hm9 : SU G h0 h2 a (rn s 11) := by rw [e9]; exact hm2
    have er : (rn s 11).2 = s.2 + 1 := rfl
    refine a_iload_5 (pc := 106) dX5_run_106 ?_
    refine n_if_ne (tgt := 125) dX5_run_108 (by decide) (by decide) (fun c_108 => by omega) (fun c_108 => ?_)
    refine a_aloadn_0 (pc := 111) dX5_run_111 ?_
    refine a_iload_6 (pc := 112) dX5_run_112 ?_
    refine a_iloadn_3 (pc := 114) dX5_run_114 ?_
    refine a_iload_4 (pc := 115) dX5_run_115 ?_
    refine a_iconst (pc := 117) (v := nI 1) dX5_run_117 (by decide) ?_
    refine n_iadd dX5_run_118 ?_
    refine cv_X5_51 (pc := 119) rfl dX5_run_119 hm9.ob (Nat.le_of_ble_eq_true rfl) ?_
    refine k_body_11 (by omega) hz hm9 hsk (dp := (dp + 1)) (by omega) (by omega) (fun h3 hm3 => ?_)
    refine a_goto (pc := 122) (tgt := 138) dX5_run_122 (by decide) ?_
    exact a_iret (pc := 138) dX5_run_138 rfl (zf hz) (k9 _ (show SU G h0 _ a (rns s (lS a.2.2.1 a.2.2.2 6 x).2) from hm3))
set_option maxRecDepth 100000 in
set_option maxHeartbeats 4000000 in
theorem k_body_40 {G : Cx} {d : Nat} {h h0 : List va_E} {a : Su} {s : Rn} {Q : Option Value → List va_E → Prop} (hd : 3 ≤ d) (hz : gz G = false) (hm : SU G h0 h a s) (hsk : a.2.2.2 < 8) {x : Int32} {dp : Nat} (hdp : dp ≤ 40) (hr : s.2 < 999) (k9 : ∀ h1, SU G h0 h1 a (rns s (ud40 a x).2) → Q (some (.int (ud40 a x).1)) h1) : AM G yX5_runUnder cX5_runUnder 6 (some .int) d 0 0 [.ref (gB G + 62), .int (nI (40)), .int (nI (3)), .int (x), .int (nI (dp))] h Q := by
  obtain ⟨d, rfl, he⟩ := dpos hd
  refine AM.of [some (.ref (gB G + 62)), some (.int (nI (40))), some (.int (nI (3))), some (.int (x)), some (.int (nI (dp))), none] pnX5 (Nat.le_of_ble_eq_true rfl) (by simp [lsub, lvI, Value.category]) ?_
  refine a_gets (pc := 0) (i := 3) (by decide) dX5_runUnder_0 rfl w_897 ?_
  refine a_iloadn_2 (pc := 3) dX5_runUnder_3 ?_
  refine a_sil (pc := 4) 3 (t := 3) (by decide) dX5_runUnder_4 rfl (by decide) ?_
  refine a_topi (nI 2) (by decide) ?_
  refine a_istore_5 (pc := 5) dX5_runUnder_5 (by decide) (by first | rfl | trivial) ?_
  refine a_iloadn_1 (pc := 7) dX5_runUnder_7 ?_
  refine a_lookup (pc := 8) (off := 109) (tgt := 117) dX5_runUnder_8 (by decide) (by decide) (by decide) ?_
  refine a_aloadn_0 (pc := 117) dX5_runUnder_117 ?_
  refine a_iload_5 (pc := 118) dX5_runUnder_118 ?_
  refine a_iconst (pc := 120) (v := nI 2) dX5_runUnder_120 (by decide) ?_
  refine a_iloadn_3 (pc := 121) dX5_runUnder_121 ?_
  refine a_iload_4 (pc := 122) dX5_runUnder_122 ?_
  refine cv_X5_44 (pc := 124) rfl dX5_runUnder_124 hm.ob (Nat.le_of_ble_eq_true rfl) ?_
  refine k_run2_2 (by omega) hz hm hsk (dp := dp) (by omega) (by omega) (fun h1 hm1 => ?_)
  have hl1 := lS_len a.2.2.1 a.2.2.2 2 ((x))
  have hr1 := rns_len (lS a.2.2.1 a.2.2.2 2 ((x))).2 s
  refine a_iconst (pc := 127) (v := nI 3) dX5_runUnder_127 (by decide) ?_
  refine a_imul (pc := 128) dX5_runUnder_128 ?_
  exact a_iret (pc := 129) dX5_runUnder_129 rfl (zf hz) (k9 _ (by rw [show rns s (ud40 a x).2 = (rns s (lS a.2.2.1 a.2.2.2 2 ((x))).2) from (by first | rfl | exact rns_app _ _ _)]; exact hm1))
set_option maxRecDepth 100000 in
set_option maxHeartbeats 4000000 in
theorem k_body_50 {G : Cx} {d : Nat} {h h0 : List va_E} {a : Su} {s : Rn} {Q : Option Value → List va_E → Prop} (hd : 5 ≤ d) (hz : gz G = false) (hm : SU G h0 h a s) (hsk : a.2.2.2 < 8) {x : Int32} {dp : Nat} (hdp : dp ≤ 39) (hr : s.2 < 985) (k9 : ∀ h1, SU G h0 h1 a (rns s (ud50 a x).2) → Q (some (.int (ud50 a x).1)) h1) : AM G yX5_runUnder cX5_runUnder 6 (some .int) d 0 0 [.ref (gB G + 62), .int (nI (50)), .int (nI (4)), .int (x), .int (nI (dp))] h Q := by
  obtain ⟨d, rfl, he⟩ := dpos hd
  refine AM.of [some (.ref (gB G + 62)), some (.int (nI (50))), some (.int (nI (4))), some (.int (x)), some (.int (nI (dp))), none] pnX5 (Nat.le_of_ble_eq_true rfl) (by simp [lsub, lvI, Value.category]) ?_
  refine a_gets (pc := 0) (i := 3) (by decide) dX5_runUnder_0 rfl w_897 ?_
  refine a_iloadn_2 (pc := 3) dX5_runUnder_3 ?_
  refine a_sil (pc := 4) 4 (t := 3) (by decide) dX5_runUnder_4 rfl (by decide) ?_
  refine a_topi (nI 1) (by decide) ?_
  refine a_istore_5 (pc := 5) dX5_runUnder_5 (by decide) (by first | rfl | trivial) ?_
  refine a_iloadn_1 (pc := 7) dX5_runUnder_7 ?_
  refine a_lookup (pc := 8) (off := 135) (tgt := 143) dX5_runUnder_8 (by decide) (by decide) (by decide) ?_
  refine a_aloadn_0 (pc := 143) dX5_runUnder_143 ?_
  refine a_iload_5 (pc := 144) dX5_runUnder_144 ?_
  refine a_iconst (pc := 146) (v := nI 2) dX5_runUnder_146 (by decide) ?_
  refine a_iloadn_3 (pc := 147) dX5_runUnder_147 ?_
  refine a_iload_4 (pc := 148) dX5_runUnder_148 ?_
  refine cv_X5_44 (pc := 150) rfl dX5_runUnder_150 hm.ob (Nat.le_of_ble_eq_true rfl) ?_
  refine k_run2_1 (by omega) hz hm hsk (dp := dp) (by omega) (by omega) (fun h1 hm1 => ?_)
  have hl1 := lS_len a.2.2.1 a.2.2.2 1 ((x))
  have hr1 := rns_len (lS a.2.2.1 a.2.2.2 1 ((x))).2 s
  refine a_aloadn_0 (pc := 153) dX5_runUnder_153 ?_
  refine a_aloadn_0 (pc := 154) dX5_runUnder_154 ?_
  refine kg_41 (x := a.2.2.2) hm1 rfl dX5_runUnder_155 rfl ?_
  refine a_iconst (pc := 158) (v := nI 0) dX5_runUnder_158 (by decide) ?_
  refine a_iconst (pc := 159) (v := nI 2) dX5_runUnder_159 (by decide) ?_
  refine a_iload_4 (pc := 160) dX5_runUnder_160 ?_
  refine cv_X5_44 (pc := 162) rfl dX5_runUnder_162 hm1.ob (Nat.le_of_ble_eq_true rfl) ?_
  refine k_run0 (by omega) hz hm1 hsk (k := a.2.2.2) hsk (dp := dp) (by omega) (by omega) (fun h2 hm2 => ?_)
  have hl2 := bS_len a.2.2.1 a.2.2.2 (nI (2))
  have hr2 := rns_len (bS a.2.2.1 a.2.2.2 (nI (2))).2 ((rns s (lS a.2.2.1 a.2.2.2 1 ((x))).2))
  refine a_isub (pc := 165) dX5_runUnder_165 ?_
  exact a_iret (pc := 166) dX5_runUnder_166 rfl (zf hz) (k9 _ (by rw [show rns s (ud50 a x).2 = (rns ((rns s (lS a.2.2.1 a.2.2.2 1 ((x))).2)) (bS a.2.2.1 a.2.2.2 (nI (2))).2) from (by first | rfl | exact rns_app _ _ _)]; exact hm2))
set_option maxRecDepth 100000 in
set_option maxHeartbeats 4000000 in
theorem k_run2_3 {G : Cx} {d : Nat} {h h0 : List va_E} {a : Su} {s : Rn} {Q : Option Value → List va_E → Prop} (hd : 6 ≤ d) (hz : gz G = false) (hm : SU G h0 h a s) (hsk : a.2.2.2 < 8) {x : Int32} {dp : Nat} (hdp : dp ≤ 38) (hr : s.2 < 984) (k9 : ∀ h1, SU G h0 h1 a (rns s (lS a.2.2.1 a.2.2.2 3 x).2) → Q (some (.int (lS a.2.2.1 a.2.2.2 3 x).1)) h1) : AM G yX5_run cX5_run 7 (some .int) d 0 0 [.ref (gB G + 62), .int (nI (3)), .int (nI (2)), .int (x), .int (nI (dp))] h Q := by
  obtain ⟨d, rfl, he⟩ := dpos hd
  refine AM.of [some (.ref (gB G + 62)), some (.int (nI (3))), some (.int (nI (2))), some (.int (x)), some (.int (nI (dp))), none, none] pnX5 (Nat.le_of_ble_eq_true rfl) (by simp [lsub, lvI, Value.category]) ?_
  refine a_iload_4 (pc := 0) dX5_run_0 ?_
  refine a_bipush (pc := 2) (v := nI 40) dX5_run_2 (by decide) ?_
  refine n_icmp_gt (tgt := 17) dX5_run_4 (by decide) (by omega) (by decide) (fun c_4 => by omega) (fun c_4 => ?_)
  refine a_iloadn_1 (pc := 7) dX5_run_7 ?_
  refine a_iconst (pc := 8) (v := nI 0) dX5_run_8 (by decide) ?_
  refine a_bipush (pc := 9) (v := nI 7) dX5_run_9 (by decide) ?_
  refine cs_X5_22 (pc := 11) rfl dX5_run_11 (Nat.le_of_ble_eq_true rfl) ?_
  refine x_within (by omega) hz ?_
  refine a_topi (bI true) (by decide) ?_
  refine b_if_ne (pc := 14) (tgt := 19) dX5_run_14 (by decide) (fun c_14 => ?_) (fun c_14 => by cases c_14)
  refine a_iloadn_1 (pc := 19) dX5_run_19 ?_
  refine a_istore_5 (pc := 20) dX5_run_20 (by decide) (by first | rfl | trivial) ?_
  refine a_iconst (pc := 22) (v := nI 0) dX5_run_22 (by decide) ?_
  refine a_istore_6 (pc := 23) dX5_run_23 (by decide) (by first | rfl | trivial) ?_
  refine a_iload_6 (pc := 25) dX5_run_25 ?_
  refine a_bipush (pc := 27) (v := nI 8) dX5_run_27 (by decide) ?_
  refine n_icmp_ge (tgt := 64) dX5_run_29 (by decide) (by decide) (by decide) (fun c_29 => by omega) (fun c_29 => ?_)
  refine a_iload_5 (pc := 32) dX5_run_32 ?_
  refine n_if_le (tgt := 64) dX5_run_34 (by decide) (by decide) (fun c_34 => by omega) (fun c_34 => ?_)
  refine a_gets (pc := 37) (i := 4) (by decide) dX5_run_37 rfl w_895 ?_
  refine a_iload_5 (pc := 40) dX5_run_40 ?_
  refine a_iconst (pc := 42) (v := nI 4) dX5_run_42 (by decide) ?_
  refine n_imul dX5_run_43 ?_
  refine a_iloadn_2 (pc := 44) dX5_run_44 ?_
  refine n_iadd dX5_run_45 ?_
  refine a_sil (pc := 46) 14 (t := 4) (by decide) dX5_run_46 rfl (by decide) ?_
  refine a_topi (nI 40) (by decide) ?_
  refine n_if_ne (tgt := 64) dX5_run_47 (by decide) (by decide) (fun c_47 => ?_) (fun c_47 => by omega)
  refine a_gets (pc := 64) (i := 4) (by decide) dX5_run_64 rfl w_895 ?_
  refine a_iload_5 (pc := 67) dX5_run_67 ?_
  refine a_iconst (pc := 69) (v := nI 4) dX5_run_69 (by decide) ?_
  refine n_imul dX5_run_70 ?_
  refine a_iloadn_2 (pc := 71) dX5_run_71 ?_
  refine n_iadd dX5_run_72 ?_
  refine a_sil (pc := 73) 14 (t := 4) (by decide) dX5_run_73 rfl (by decide) ?_
  refine a_topi (nI 40) (by decide) ?_
  refine a_istore_6 (pc := 74) dX5_run_74 (by decide) (by first | rfl | trivial) ?_
  refine a_aloadn_0 (pc := 76) dX5_run_76 ?_
  refine kg_29 (x := s.2) hm rfl dX5_run_77 rfl ?_
  refine a_bipush (pc := 80) (v := nI 24) dX5_run_80 (by decide) ?_
  refine n_icmp_ge (tgt := 96) dX5_run_82 (by decide) (by omega) (by decide) (fun c_82 => ?_) (fun c_82 => ?_)
  · have e9 : (rn s 40) = (s.1, s.2 + 1) := by unfold rn; rw [if_neg (by omega)]
    refine a_aloadn_0 (pc := 96) dX5_run_96 ?_
    refine a_dup (pc := 97) dX5_run_97 rfl ?_
    refine kg_29 (x := s.2) hm rfl dX5_run_98 rfl ?_
    refine a_iconst (pc := 101) (v := nI 1) dX5_run_101 (by decide) ?_
    refine n_iadd dX5_run_102 ?_
    refine kp_29 (x := s.2 + 1) hm rfl dX5_run_103 (fun h1 hm1 => ?_)
    have hm9 : SU G h0 h1 a (rn s 40) := by rw [e9]; exact hm1
    have er : (rn s 40).2 = s.2 + 1 := rfl
    refine a_iload_5 (pc := 106) dX5_run_106 ?_
    refine n_if_ne (tgt := 125) dX5_run_108 (by decide) (by decide) (fun c_108 => ?_) (fun c_108 => by omega)
    refine a_aloadn_0 (pc := 125) dX5_run_125 ?_
    refine a_iload_6 (pc := 126) dX5_run_126 ?_
    refine a_iload_5 (pc := 128) dX5_run_128 ?_
    refine a_iloadn_3 (pc := 130) dX5_run_130 ?_
    refine a_iload_4 (pc := 131) dX5_run_131 ?_
    refine a_iconst (pc := 133) (v := nI 1) dX5_run_133 (by decide) ?_
    refine n_iadd dX5_run_134 ?_
    refine cv_X5_55 (pc := 135) rfl dX5_run_135 hm9.ob (Nat.le_of_ble_eq_true rfl) ?_
    refine k_body_40 (by omega) hz hm9 hsk (dp := (dp + 1)) (by omega) (by omega) (fun h2 hm2 => ?_)
    exact a_iret (pc := 138) dX5_run_138 rfl (zf hz) (k9 _ (show SU G h0 _ a (rns s (lS a.2.2.1 a.2.2.2 3 x).2) from hm2))
  · have e9 : (rn s 40) = (va_up s.1 s.2 40, s.2 + 1) := by unfold rn; rw [if_pos c_82]
    refine a_aloadn_0 (pc := 85) dX5_run_85 ?_
    refine kg_15 hm rfl dX5_run_86 ?_
    refine a_aloadn_0 (pc := 89) dX5_run_89 ?_
    refine kg_29 (x := s.2) hm rfl dX5_run_90 rfl ?_
    refine a_iload_6 (pc := 93) dX5_run_93 ?_
    refine ks_trace (j := s.2) (x := 40) hm dX5_run_95 (by omega) (fun h1 hm1 => ?_)
    refine a_aloadn_0 (pc := 96) dX5_run_96 ?_
    refine a_dup (pc := 97) dX5_run_97 rfl ?_
    refine kg_29 (x := ((va_up s.1 s.2 40, s.2)).2) hm1 rfl dX5_run_98 rfl ?_
    refine a_iconst (pc := 101) (v := nI 1) dX5_run_101 (by decide) ?_
    refine n_iadd dX5_run_102 ?_
    refine kp_29 (x := ((va_up s.1 s.2 40, s.2)).2 + 1) hm1 rfl dX5_run_103 (fun h2 hm2 => ?_)
    have hm9 : SU G h0 h2 a (rn s 40) := by rw [e9]; exact hm2
    have er : (rn s 40).2 = s.2 + 1 := rfl
    refine a_iload_5 (pc := 106) dX5_run_106 ?_
    refine n_if_ne (tgt := 125) dX5_run_108 (by decide) (by decide) (fun c_108 => ?_) (fun c_108 => by omega)
    refine a_aloadn_0 (pc := 125) dX5_run_125 ?_
    refine a_iload_6 (pc := 126) dX5_run_126 ?_
    refine a_iload_5 (pc := 128) dX5_run_128 ?_
    refine a_iloadn_3 (pc := 130) dX5_run_130 ?_
    refine a_iload_4 (pc := 131) dX5_run_131 ?_
    refine a_iconst (pc := 133) (v := nI 1) dX5_run_133 (by decide) ?_
    refine n_iadd dX5_run_134 ?_
    refine cv_X5_55 (pc := 135) rfl dX5_run_135 hm9.ob (Nat.le_of_ble_eq_true rfl) ?_
    refine k_body_40 (by omega) hz hm9 hsk (dp := (dp + 1)) (by omega) (by omega) (fun h3 hm3 => ?_)
    exact a_iret (pc := 138) dX5_run_138 rfl (zf hz) (k9 _ (show SU G h0 _ a (rns s (lS a.2.2.1 a.2.2.2 3 x).2) from hm3))
set_option maxRecDepth 100000 in
set_option maxHeartbeats 4000000 in
theorem k_run2_5 {G : Cx} {d : Nat} {h h0 : List va_E} {a : Su} {s : Rn} {Q : Option Value → List va_E → Prop} (hd : 6 ≤ d) (hz : gz G = false) (hm : SU G h0 h a s) (hsk : a.2.2.2 < 8) {x : Int32} {dp : Nat} (hdp : dp ≤ 38) (hr : s.2 < 984) (k9 : ∀ h1, SU G h0 h1 a (rns s (lS a.2.2.1 a.2.2.2 5 x).2) → Q (some (.int (lS a.2.2.1 a.2.2.2 5 x).1)) h1) : AM G yX5_run cX5_run 7 (some .int) d 0 0 [.ref (gB G + 62), .int (nI (5)), .int (nI (2)), .int (x), .int (nI (dp))] h Q := by
  obtain ⟨d, rfl, he⟩ := dpos hd
  refine AM.of [some (.ref (gB G + 62)), some (.int (nI (5))), some (.int (nI (2))), some (.int (x)), some (.int (nI (dp))), none, none] pnX5 (Nat.le_of_ble_eq_true rfl) (by simp [lsub, lvI, Value.category]) ?_
  refine a_iload_4 (pc := 0) dX5_run_0 ?_
  refine a_bipush (pc := 2) (v := nI 40) dX5_run_2 (by decide) ?_
  refine n_icmp_gt (tgt := 17) dX5_run_4 (by decide) (by omega) (by decide) (fun c_4 => by omega) (fun c_4 => ?_)
  refine a_iloadn_1 (pc := 7) dX5_run_7 ?_
  refine a_iconst (pc := 8) (v := nI 0) dX5_run_8 (by decide) ?_
  refine a_bipush (pc := 9) (v := nI 7) dX5_run_9 (by decide) ?_
  refine cs_X5_22 (pc := 11) rfl dX5_run_11 (Nat.le_of_ble_eq_true rfl) ?_
  refine x_within (by omega) hz ?_
  refine a_topi (bI true) (by decide) ?_
  refine b_if_ne (pc := 14) (tgt := 19) dX5_run_14 (by decide) (fun c_14 => ?_) (fun c_14 => by cases c_14)
  refine a_iloadn_1 (pc := 19) dX5_run_19 ?_
  refine a_istore_5 (pc := 20) dX5_run_20 (by decide) (by first | rfl | trivial) ?_
  refine a_iconst (pc := 22) (v := nI 0) dX5_run_22 (by decide) ?_
  refine a_istore_6 (pc := 23) dX5_run_23 (by decide) (by first | rfl | trivial) ?_
  refine a_iload_6 (pc := 25) dX5_run_25 ?_
  refine a_bipush (pc := 27) (v := nI 8) dX5_run_27 (by decide) ?_
  refine n_icmp_ge (tgt := 64) dX5_run_29 (by decide) (by decide) (by decide) (fun c_29 => by omega) (fun c_29 => ?_)
  refine a_iload_5 (pc := 32) dX5_run_32 ?_
  refine n_if_le (tgt := 64) dX5_run_34 (by decide) (by decide) (fun c_34 => by omega) (fun c_34 => ?_)
  refine a_gets (pc := 37) (i := 4) (by decide) dX5_run_37 rfl w_895 ?_
  refine a_iload_5 (pc := 40) dX5_run_40 ?_
  refine a_iconst (pc := 42) (v := nI 4) dX5_run_42 (by decide) ?_
  refine n_imul dX5_run_43 ?_
  refine a_iloadn_2 (pc := 44) dX5_run_44 ?_
  refine n_iadd dX5_run_45 ?_
  refine a_sil (pc := 46) 22 (t := 4) (by decide) dX5_run_46 rfl (by decide) ?_
  refine a_topi (nI 0) (by decide) ?_
  refine n_if_ne (tgt := 64) dX5_run_47 (by decide) (by decide) (fun c_47 => by omega) (fun c_47 => ?_)
  refine a_gets (pc := 50) (i := 3) (by decide) dX5_run_50 rfl w_897 ?_
  refine a_iload_5 (pc := 53) dX5_run_53 ?_
  refine a_sil (pc := 55) 5 (t := 3) (by decide) dX5_run_55 rfl (by decide) ?_
  refine a_topi (nI 3) (by decide) ?_
  refine a_istore_5 (pc := 56) dX5_run_56 (by decide) (by first | rfl | trivial) ?_
  refine a_iinc_6 (pc := 58) (v := nI (1)) dX5_run_58 (nI_add _ _) (by decide) (by first | rfl | trivial) ?_
  refine a_goto (pc := 61) (tgt := 25) dX5_run_61 (by decide) ?_
  refine a_iload_6 (pc := 25) dX5_run_25 ?_
  refine a_bipush (pc := 27) (v := nI 8) dX5_run_27 (by decide) ?_
  refine n_icmp_ge (tgt := 64) dX5_run_29 (by decide) (by decide) (by decide) (fun c_29 => by omega) (fun c_29 => ?_)
  refine a_iload_5 (pc := 32) dX5_run_32 ?_
  refine n_if_le (tgt := 64) dX5_run_34 (by decide) (by decide) (fun c_34 => by omega) (fun c_34 => ?_)
  refine a_gets (pc := 37) (i := 4) (by decide) dX5_run_37 rfl w_895 ?_
  refine a_iload_5 (pc := 40) dX5_run_40 ?_
  refine a_iconst (pc := 42) (v := nI 4) dX5_run_42 (by decide) ?_
  refine n_imul dX5_run_43 ?_
  refine a_iloadn_2 (pc := 44) dX5_run_44 ?_
  refine n_iadd dX5_run_45 ?_
  refine a_sil (pc := 46) 14 (t := 4) (by decide) dX5_run_46 rfl (by decide) ?_
  refine a_topi (nI 40) (by decide) ?_
  refine n_if_ne (tgt := 64) dX5_run_47 (by decide) (by decide) (fun c_47 => ?_) (fun c_47 => by omega)
  refine a_gets (pc := 64) (i := 4) (by decide) dX5_run_64 rfl w_895 ?_
  refine a_iload_5 (pc := 67) dX5_run_67 ?_
  refine a_iconst (pc := 69) (v := nI 4) dX5_run_69 (by decide) ?_
  refine n_imul dX5_run_70 ?_
  refine a_iloadn_2 (pc := 71) dX5_run_71 ?_
  refine n_iadd dX5_run_72 ?_
  refine a_sil (pc := 73) 14 (t := 4) (by decide) dX5_run_73 rfl (by decide) ?_
  refine a_topi (nI 40) (by decide) ?_
  refine a_istore_6 (pc := 74) dX5_run_74 (by decide) (by first | rfl | trivial) ?_
  refine a_aloadn_0 (pc := 76) dX5_run_76 ?_
  refine kg_29 (x := s.2) hm rfl dX5_run_77 rfl ?_
  refine a_bipush (pc := 80) (v := nI 24) dX5_run_80 (by decide) ?_
  refine n_icmp_ge (tgt := 96) dX5_run_82 (by decide) (by omega) (by decide) (fun c_82 => ?_) (fun c_82 => ?_)
  · have e9 : (rn s 40) = (s.1, s.2 + 1) := by unfold rn; rw [if_neg (by omega)]
    refine a_aloadn_0 (pc := 96) dX5_run_96 ?_
    refine a_dup (pc := 97) dX5_run_97 rfl ?_
    refine kg_29 (x := s.2) hm rfl dX5_run_98 rfl ?_
    refine a_iconst (pc := 101) (v := nI 1) dX5_run_101 (by decide) ?_
    refine n_iadd dX5_run_102 ?_
    refine kp_29 (x := s.2 + 1) hm rfl dX5_run_103 (fun h1 hm1 => ?_)
    have hm9 : SU G h0 h1 a (rn s 40) := by rw [e9]; exact hm1
    have er : (rn s 40).2 = s.2 + 1 := rfl
    refine a_iload_5 (pc := 106) dX5_run_106 ?_
    refine n_if_ne (tgt := 125) dX5_run_108 (by decide) (by decide) (fun c_108 => ?_) (fun c_108 => by omega)
    refine a_aloadn_0 (pc := 125) dX5_run_125 ?_
    refine a_iload_6 (pc := 126) dX5_run_126 ?_
    refine a_iload_5 (pc := 128) dX5_run_128 ?_
    refine a_iloadn_3 (pc := 130) dX5_run_130 ?_
    refine a_iload_4 (pc := 131) dX5_run_131 ?_
    refine a_iconst (pc := 133) (v := nI 1) dX5_run_133 (by decide) ?_
    refine n_iadd dX5_run_134 ?_
    refine cv_X5_55 (pc := 135) rfl dX5_run_135 hm9.ob (Nat.le_of_ble_eq_true rfl) ?_
    refine k_body_40 (by omega) hz hm9 hsk (dp := (dp + 1)) (by omega) (by omega) (fun h2 hm2 => ?_)
    exact a_iret (pc := 138) dX5_run_138 rfl (zf hz) (k9 _ (show SU G h0 _ a (rns s (lS a.2.2.1 a.2.2.2 5 x).2) from hm2))
  · have e9 : (rn s 40) = (va_up s.1 s.2 40, s.2 + 1) := by unfold rn; rw [if_pos c_82]
    refine a_aloadn_0 (pc := 85) dX5_run_85 ?_
    refine kg_15 hm rfl dX5_run_86 ?_
    refine a_aloadn_0 (pc := 89) dX5_run_89 ?_
    refine kg_29 (x := s.2) hm rfl dX5_run_90 rfl ?_
    refine a_iload_6 (pc := 93) dX5_run_93 ?_
    refine ks_trace (j := s.2) (x := 40) hm dX5_run_95 (by omega) (fun h1 hm1 => ?_)
    refine a_aloadn_0 (pc := 96) dX5_run_96 ?_
    refine a_dup (pc := 97) dX5_run_97 rfl ?_
    refine kg_29 (x := ((va_up s.1 s.2 40, s.2)).2) hm1 rfl dX5_run_98 rfl ?_
    refine a_iconst (pc := 101) (v := nI 1) dX5_run_101 (by decide) ?_
    refine n_iadd dX5_run_102 ?_
    refine kp_29 (x := ((va_up s.1 s.2 40, s.2)).2 + 1) hm1 rfl dX5_run_103 (fun h2 hm2 => ?_)
    have hm9 : SU G h0 h2 a (rn s 40) := by rw [e9]; exact hm2
    have er : (rn s 40).2 = s.2 + 1 := rfl
    refine a_iload_5 (pc := 106) dX5_run_106 ?_
    refine n_if_ne (tgt := 125) dX5_run_108 (by decide) (by decide) (fun c_108 => ?_) (fun c_108 => by omega)
    refine a_aloadn_0 (pc := 125) dX5_run_125 ?_
    refine a_iload_6 (pc := 126) dX5_run_126 ?_
    refine a_iload_5 (pc := 128) dX5_run_128 ?_
    refine a_iloadn_3 (pc := 130) dX5_run_130 ?_
    refine a_iload_4 (pc := 131) dX5_run_131 ?_
    refine a_iconst (pc := 133) (v := nI 1) dX5_run_133 (by decide) ?_
    refine n_iadd dX5_run_134 ?_
    refine cv_X5_55 (pc := 135) rfl dX5_run_135 hm9.ob (Nat.le_of_ble_eq_true rfl) ?_
    refine k_body_40 (by omega) hz hm9 hsk (dp := (dp + 1)) (by omega) (by omega) (fun h3 hm3 => ?_)
    exact a_iret (pc := 138) dX5_run_138 rfl (zf hz) (k9 _ (show SU G h0 _ a (rns s (lS a.2.2.1 a.2.2.2 5 x).2) from hm3))
set_option maxRecDepth 100000 in
set_option maxHeartbeats 4000000 in
theorem k_run2_4 {G : Cx} {d : Nat} {h h0 : List va_E} {a : Su} {s : Rn} {Q : Option Value → List va_E → Prop} (hd : 6 ≤ d) (hz : gz G = false) (hm : SU G h0 h a s) (hsk : a.2.2.2 < 8) {x : Int32} {dp : Nat} (hdp : dp ≤ 38) (hr : s.2 < 984) (k9 : ∀ h1, SU G h0 h1 a (rns s (lS a.2.2.1 a.2.2.2 4 x).2) → Q (some (.int (lS a.2.2.1 a.2.2.2 4 x).1)) h1) : AM G yX5_run cX5_run 7 (some .int) d 0 0 [.ref (gB G + 62), .int (nI (4)), .int (nI (2)), .int (x), .int (nI (dp))] h Q := by
  obtain ⟨d, rfl, he⟩ := dpos hd
  refine AM.of [some (.ref (gB G + 62)), some (.int (nI (4))), some (.int (nI (2))), some (.int (x)), some (.int (nI (dp))), none, none] pnX5 (Nat.le_of_ble_eq_true rfl) (by simp [lsub, lvI, Value.category]) ?_
  refine a_iload_4 (pc := 0) dX5_run_0 ?_
  refine a_bipush (pc := 2) (v := nI 40) dX5_run_2 (by decide) ?_
  refine n_icmp_gt (tgt := 17) dX5_run_4 (by decide) (by omega) (by decide) (fun c_4 => by omega) (fun c_4 => ?_)
  refine a_iloadn_1 (pc := 7) dX5_run_7 ?_
  refine a_iconst (pc := 8) (v := nI 0) dX5_run_8 (by decide) ?_
  refine a_bipush (pc := 9) (v := nI 7) dX5_run_9 (by decide) ?_
  refine cs_X5_22 (pc := 11) rfl dX5_run_11 (Nat.le_of_ble_eq_true rfl) ?_
  refine x_within (by omega) hz ?_
  refine a_topi (bI true) (by decide) ?_
  refine b_if_ne (pc := 14) (tgt := 19) dX5_run_14 (by decide) (fun c_14 => ?_) (fun c_14 => by cases c_14)
  refine a_iloadn_1 (pc := 19) dX5_run_19 ?_
  refine a_istore_5 (pc := 20) dX5_run_20 (by decide) (by first | rfl | trivial) ?_
  refine a_iconst (pc := 22) (v := nI 0) dX5_run_22 (by decide) ?_
  refine a_istore_6 (pc := 23) dX5_run_23 (by decide) (by first | rfl | trivial) ?_
  refine a_iload_6 (pc := 25) dX5_run_25 ?_
  refine a_bipush (pc := 27) (v := nI 8) dX5_run_27 (by decide) ?_
  refine n_icmp_ge (tgt := 64) dX5_run_29 (by decide) (by decide) (by decide) (fun c_29 => by omega) (fun c_29 => ?_)
  refine a_iload_5 (pc := 32) dX5_run_32 ?_
  refine n_if_le (tgt := 64) dX5_run_34 (by decide) (by decide) (fun c_34 => by omega) (fun c_34 => ?_)
  refine a_gets (pc := 37) (i := 4) (by decide) dX5_run_37 rfl w_895 ?_
  refine a_iload_5 (pc := 40) dX5_run_40 ?_
  refine a_iconst (pc := 42) (v := nI 4) dX5_run_42 (by decide) ?_
  refine n_imul dX5_run_43 ?_
  refine a_iloadn_2 (pc := 44) dX5_run_44 ?_
  refine n_iadd dX5_run_45 ?_
  refine a_sil (pc := 46) 18 (t := 4) (by decide) dX5_run_46 rfl (by decide) ?_
  refine a_topi (nI 50) (by decide) ?_
  refine n_if_ne (tgt := 64) dX5_run_47 (by decide) (by decide) (fun c_47 => ?_) (fun c_47 => by omega)
  refine a_gets (pc := 64) (i := 4) (by decide) dX5_run_64 rfl w_895 ?_
  refine a_iload_5 (pc := 67) dX5_run_67 ?_
  refine a_iconst (pc := 69) (v := nI 4) dX5_run_69 (by decide) ?_
  refine n_imul dX5_run_70 ?_
  refine a_iloadn_2 (pc := 71) dX5_run_71 ?_
  refine n_iadd dX5_run_72 ?_
  refine a_sil (pc := 73) 18 (t := 4) (by decide) dX5_run_73 rfl (by decide) ?_
  refine a_topi (nI 50) (by decide) ?_
  refine a_istore_6 (pc := 74) dX5_run_74 (by decide) (by first | rfl | trivial) ?_
  refine a_aloadn_0 (pc := 76) dX5_run_76 ?_
  refine kg_29 (x := s.2) hm rfl dX5_run_77 rfl ?_
  refine a_bipush (pc := 80) (v := nI 24) dX5_run_80 (by decide) ?_
  refine n_icmp_ge (tgt := 96) dX5_run_82 (by decide) (by omega) (by decide) (fun c_82 => ?_) (fun c_82 => ?_)
  · have e9 : (rn s 50) = (s.1, s.2 + 1) := by unfold rn; rw [if_neg (by omega)]
    refine a_aloadn_0 (pc := 96) dX5_run_96 ?_
    refine a_dup (pc := 97) dX5_run_97 rfl ?_
    refine kg_29 (x := s.2) hm rfl dX5_run_98 rfl ?_
    refine a_iconst (pc := 101) (v := nI 1) dX5_run_101 (by decide) ?_
    refine n_iadd dX5_run_102 ?_
    refine kp_29 (x := s.2 + 1) hm rfl dX5_run_103 (fun h1 hm1 => ?_)
    have hm9 : SU G h0 h1 a (rn s 50) := by rw [e9]; exact hm1
    have er : (rn s 50).2 = s.2 + 1 := rfl
    refine a_iload_5 (pc := 106) dX5_run_106 ?_
    refine n_if_ne (tgt := 125) dX5_run_108 (by decide) (by decide) (fun c_108 => ?_) (fun c_108 => by omega)
    refine a_aloadn_0 (pc := 125) dX5_run_125 ?_
    refine a_iload_6 (pc := 126) dX5_run_126 ?_
    refine a_iload_5 (pc := 128) dX5_run_128 ?_
    refine a_iloadn_3 (pc := 130) dX5_run_130 ?_
    refine a_iload_4 (pc := 131) dX5_run_131 ?_
    refine a_iconst (pc := 133) (v := nI 1) dX5_run_133 (by decide) ?_
    refine n_iadd dX5_run_134 ?_
    refine cv_X5_55 (pc := 135) rfl dX5_run_135 hm9.ob (Nat.le_of_ble_eq_true rfl) ?_
    refine k_body_50 (by omega) hz hm9 hsk (dp := (dp + 1)) (by omega) (by omega) (fun h2 hm2 => ?_)
    exact a_iret (pc := 138) dX5_run_138 rfl (zf hz) (k9 _ (show SU G h0 _ a (rns s (lS a.2.2.1 a.2.2.2 4 x).2) from hm2))
  · have e9 : (rn s 50) = (va_up s.1 s.2 50, s.2 + 1) := by unfold rn; rw [if_pos c_82]
    refine a_aloadn_0 (pc := 85) dX5_run_85 ?_
    refine kg_15 hm rfl dX5_run_86 ?_
    refine a_aloadn_0 (pc := 89) dX5_run_89 ?_
    refine kg_29 (x := s.2) hm rfl dX5_run_90 rfl ?_
    refine a_iload_6 (pc := 93) dX5_run_93 ?_
    refine ks_trace (j := s.2) (x := 50) hm dX5_run_95 (by omega) (fun h1 hm1 => ?_)
    refine a_aloadn_0 (pc := 96) dX5_run_96 ?_
    refine a_dup (pc := 97) dX5_run_97 rfl ?_
    refine kg_29 (x := ((va_up s.1 s.2 50, s.2)).2) hm1 rfl dX5_run_98 rfl ?_
    refine a_iconst (pc := 101) (v := nI 1) dX5_run_101 (by decide) ?_
    refine n_iadd dX5_run_102 ?_
    refine kp_29 (x := ((va_up s.1 s.2 50, s.2)).2 + 1) hm1 rfl dX5_run_103 (fun h2 hm2 => ?_)
    have hm9 : SU G h0 h2 a (rn s 50) := by rw [e9]; exact hm2
    have er : (rn s 50).2 = s.2 + 1 := rfl
    refine a_iload_5 (pc := 106) dX5_run_106 ?_
    refine n_if_ne (tgt := 125) dX5_run_108 (by decide) (by decide) (fun c_108 => ?_) (fun c_108 => by omega)
    refine a_aloadn_0 (pc := 125) dX5_run_125 ?_
    refine a_iload_6 (pc := 126) dX5_run_126 ?_
    refine a_iload_5 (pc := 128) dX5_run_128 ?_
    refine a_iloadn_3 (pc := 130) dX5_run_130 ?_
    refine a_iload_4 (pc := 131) dX5_run_131 ?_
    refine a_iconst (pc := 133) (v := nI 1) dX5_run_133 (by decide) ?_
    refine n_iadd dX5_run_134 ?_
    refine cv_X5_55 (pc := 135) rfl dX5_run_135 hm9.ob (Nat.le_of_ble_eq_true rfl) ?_
    refine k_body_50 (by omega) hz hm9 hsk (dp := (dp + 1)) (by omega) (by omega) (fun h3 hm3 => ?_)
    exact a_iret (pc := 138) dX5_run_138 rfl (zf hz) (k9 _ (show SU G h0 _ a (rns s (lS a.2.2.1 a.2.2.2 4 x).2) from hm3))
set_option maxRecDepth 100000 in
set_option maxHeartbeats 4000000 in
theorem k_run2_7 {G : Cx} {d : Nat} {h h0 : List va_E} {a : Su} {s : Rn} {Q : Option Value → List va_E → Prop} (hd : 6 ≤ d) (hz : gz G = false) (hm : SU G h0 h a s) (hsk : a.2.2.2 < 8) {x : Int32} {dp : Nat} (hdp : dp ≤ 38) (hr : s.2 < 984) (k9 : ∀ h1, SU G h0 h1 a (rns s (lS a.2.2.1 a.2.2.2 7 x).2) → Q (some (.int (lS a.2.2.1 a.2.2.2 7 x).1)) h1) : AM G yX5_run cX5_run 7 (some .int) d 0 0 [.ref (gB G + 62), .int (nI (7)), .int (nI (2)), .int (x), .int (nI (dp))] h Q := by
  obtain ⟨d, rfl, he⟩ := dpos hd
  refine AM.of [some (.ref (gB G + 62)), some (.int (nI (7))), some (.int (nI (2))), some (.int (x)), some (.int (nI (dp))), none, none] pnX5 (Nat.le_of_ble_eq_true rfl) (by simp [lsub, lvI, Value.category]) ?_
  refine a_iload_4 (pc := 0) dX5_run_0 ?_
  refine a_bipush (pc := 2) (v := nI 40) dX5_run_2 (by decide) ?_
  refine n_icmp_gt (tgt := 17) dX5_run_4 (by decide) (by omega) (by decide) (fun c_4 => by omega) (fun c_4 => ?_)
  refine a_iloadn_1 (pc := 7) dX5_run_7 ?_
  refine a_iconst (pc := 8) (v := nI 0) dX5_run_8 (by decide) ?_
  refine a_bipush (pc := 9) (v := nI 7) dX5_run_9 (by decide) ?_
  refine cs_X5_22 (pc := 11) rfl dX5_run_11 (Nat.le_of_ble_eq_true rfl) ?_
  refine x_within (by omega) hz ?_
  refine a_topi (bI true) (by decide) ?_
  refine b_if_ne (pc := 14) (tgt := 19) dX5_run_14 (by decide) (fun c_14 => ?_) (fun c_14 => by cases c_14)
  refine a_iloadn_1 (pc := 19) dX5_run_19 ?_
  refine a_istore_5 (pc := 20) dX5_run_20 (by decide) (by first | rfl | trivial) ?_
  refine a_iconst (pc := 22) (v := nI 0) dX5_run_22 (by decide) ?_
  refine a_istore_6 (pc := 23) dX5_run_23 (by decide) (by first | rfl | trivial) ?_
  refine a_iload_6 (pc := 25) dX5_run_25 ?_
  refine a_bipush (pc := 27) (v := nI 8) dX5_run_27 (by decide) ?_
  refine n_icmp_ge (tgt := 64) dX5_run_29 (by decide) (by decide) (by decide) (fun c_29 => by omega) (fun c_29 => ?_)
  refine a_iload_5 (pc := 32) dX5_run_32 ?_
  refine n_if_le (tgt := 64) dX5_run_34 (by decide) (by decide) (fun c_34 => by omega) (fun c_34 => ?_)
  refine a_gets (pc := 37) (i := 4) (by decide) dX5_run_37 rfl w_895 ?_
  refine a_iload_5 (pc := 40) dX5_run_40 ?_
  refine a_iconst (pc := 42) (v := nI 4) dX5_run_42 (by decide) ?_
  refine n_imul dX5_run_43 ?_
  refine a_iloadn_2 (pc := 44) dX5_run_44 ?_
  refine n_iadd dX5_run_45 ?_
  refine a_sil (pc := 46) 30 (t := 4) (by decide) dX5_run_46 rfl (by decide) ?_
  refine a_topi (nI 0) (by decide) ?_
  refine n_if_ne (tgt := 64) dX5_run_47 (by decide) (by decide) (fun c_47 => by omega) (fun c_47 => ?_)
  refine a_gets (pc := 50) (i := 3) (by decide) dX5_run_50 rfl w_897 ?_
  refine a_iload_5 (pc := 53) dX5_run_53 ?_
  refine a_sil (pc := 55) 7 (t := 3) (by decide) dX5_run_55 rfl (by decide) ?_
  refine a_topi (nI 4) (by decide) ?_
  refine a_istore_5 (pc := 56) dX5_run_56 (by decide) (by first | rfl | trivial) ?_
  refine a_iinc_6 (pc := 58) (v := nI (1)) dX5_run_58 (nI_add _ _) (by decide) (by first | rfl | trivial) ?_
  refine a_goto (pc := 61) (tgt := 25) dX5_run_61 (by decide) ?_
  refine a_iload_6 (pc := 25) dX5_run_25 ?_
  refine a_bipush (pc := 27) (v := nI 8) dX5_run_27 (by decide) ?_
  refine n_icmp_ge (tgt := 64) dX5_run_29 (by decide) (by decide) (by decide) (fun c_29 => by omega) (fun c_29 => ?_)
  refine a_iload_5 (pc := 32) dX5_run_32 ?_
  refine n_if_le (tgt := 64) dX5_run_34 (by decide) (by decide) (fun c_34 => by omega) (fun c_34 => ?_)
  refine a_gets (pc := 37) (i := 4) (by decide) dX5_run_37 rfl w_895 ?_
  refine a_iload_5 (pc := 40) dX5_run_40 ?_
  refine a_iconst (pc := 42) (v := nI 4) dX5_run_42 (by decide) ?_
  refine n_imul dX5_run_43 ?_
  refine a_iloadn_2 (pc := 44) dX5_run_44 ?_
  refine n_iadd dX5_run_45 ?_
  refine a_sil (pc := 46) 18 (t := 4) (by decide) dX5_run_46 rfl (by decide) ?_
  refine a_topi (nI 50) (by decide) ?_
  refine n_if_ne (tgt := 64) dX5_run_47 (by decide) (by decide) (fun c_47 => ?_) (fun c_47 => by omega)
  refine a_gets (pc := 64) (i := 4) (by decide) dX5_run_64 rfl w_895 ?_
  refine a_iload_5 (pc := 67) dX5_run_67 ?_
  refine a_iconst (pc := 69) (v := nI 4) dX5_run_69 (by decide) ?_
  refine n_imul dX5_run_70 ?_
  refine a_iloadn_2 (pc := 71) dX5_run_71 ?_
  refine n_iadd dX5_run_72 ?_
  refine a_sil (pc := 73) 18 (t := 4) (by decide) dX5_run_73 rfl (by decide) ?_
  refine a_topi (nI 50) (by decide) ?_
  refine a_istore_6 (pc := 74) dX5_run_74 (by decide) (by first | rfl | trivial) ?_
  refine a_aloadn_0 (pc := 76) dX5_run_76 ?_
  refine kg_29 (x := s.2) hm rfl dX5_run_77 rfl ?_
  refine a_bipush (pc := 80) (v := nI 24) dX5_run_80 (by decide) ?_
  refine n_icmp_ge (tgt := 96) dX5_run_82 (by decide) (by omega) (by decide) (fun c_82 => ?_) (fun c_82 => ?_)
  · have e9 : (rn s 50) = (s.1, s.2 + 1) := by unfold rn; rw [if_neg (by omega)]
    refine a_aloadn_0 (pc := 96) dX5_run_96 ?_
    refine a_dup (pc := 97) dX5_run_97 rfl ?_
    refine kg_29 (x := s.2) hm rfl dX5_run_98 rfl ?_
    refine a_iconst (pc := 101) (v := nI 1) dX5_run_101 (by decide) ?_
    refine n_iadd dX5_run_102 ?_
    refine kp_29 (x := s.2 + 1) hm rfl dX5_run_103 (fun h1 hm1 => ?_)
    have hm9 : SU G h0 h1 a (rn s 50) := by rw [e9]; exact hm1
    have er : (rn s 50).2 = s.2 + 1 := rfl
    refine a_iload_5 (pc := 106) dX5_run_106 ?_
    refine n_if_ne (tgt := 125) dX5_run_108 (by decide) (by decide) (fun c_108 => ?_) (fun c_108 => by omega)
    refine a_aloadn_0 (pc := 125) dX5_run_125 ?_
    refine a_iload_6 (pc := 126) dX5_run_126 ?_
    refine a_iload_5 (pc := 128) dX5_run_128 ?_
    refine a_iloadn_3 (pc := 130) dX5_run_130 ?_
    refine a_iload_4 (pc := 131) dX5_run_131 ?_
    refine a_iconst (pc := 133) (v := nI 1) dX5_run_133 (by decide) ?_
    refine n_iadd dX5_run_134 ?_
    refine cv_X5_55 (pc := 135) rfl dX5_run_135 hm9.ob (Nat.le_of_ble_eq_true rfl) ?_
    refine k_body_50 (by omega) hz hm9 hsk (dp := (dp + 1)) (by omega) (by omega) (fun h2 hm2 => ?_)
    exact a_iret (pc := 138) dX5_run_138 rfl (zf hz) (k9 _ (show SU G h0 _ a (rns s (lS a.2.2.1 a.2.2.2 7 x).2) from hm2))
  · have e9 : (rn s 50) = (va_up s.1 s.2 50, s.2 + 1) := by unfold rn; rw [if_pos c_82]
    refine a_aloadn_0 (pc := 85) dX5_run_85 ?_
    refine kg_15 hm rfl dX5_run_86 ?_
    refine a_aloadn_0 (pc := 89) dX5_run_89 ?_
    refine kg_29 (x := s.2) hm rfl dX5_run_90 rfl ?_
    refine a_iload_6 (pc := 93) dX5_run_93 ?_
    refine ks_trace (j := s.2) (x := 50) hm dX5_run_95 (by omega) (fun h1 hm1 => ?_)
    refine a_aloadn_0 (pc := 96) dX5_run_96 ?_
    refine a_dup (pc := 97) dX5_run_97 rfl ?_
    refine kg_29 (x := ((va_up s.1 s.2 50, s.2)).2) hm1 rfl dX5_run_98 rfl ?_
    refine a_iconst (pc := 101) (v := nI 1) dX5_run_101 (by decide) ?_
    refine n_iadd dX5_run_102 ?_
    refine kp_29 (x := ((va_up s.1 s.2 50, s.2)).2 + 1) hm1 rfl dX5_run_103 (fun h2 hm2 => ?_)
    have hm9 : SU G h0 h2 a (rn s 50) := by rw [e9]; exact hm2
    have er : (rn s 50).2 = s.2 + 1 := rfl
    refine a_iload_5 (pc := 106) dX5_run_106 ?_
    refine n_if_ne (tgt := 125) dX5_run_108 (by decide) (by decide) (fun c_108 => ?_) (fun c_108 => by omega)
    refine a_aloadn_0 (pc := 125) dX5_run_125 ?_
    refine a_iload_6 (pc := 126) dX5_run_126 ?_
    refine a_iload_5 (pc := 128) dX5_run_128 ?_
    refine a_iloadn_3 (pc := 130) dX5_run_130 ?_
    refine a_iload_4 (pc := 131) dX5_run_131 ?_
    refine a_iconst (pc := 133) (v := nI 1) dX5_run_133 (by decide) ?_
    refine n_iadd dX5_run_134 ?_
    refine cv_X5_55 (pc := 135) rfl dX5_run_135 hm9.ob (Nat.le_of_ble_eq_true rfl) ?_
    refine k_body_50 (by omega) hz hm9 hsk (dp := (dp + 1)) (by omega) (by omega) (fun h3 hm3 => ?_)
    exact a_iret (pc := 138) dX5_run_138 rfl (zf hz) (k9 _ (show SU G h0 _ a (rns s (lS a.2.2.1 a.2.2.2 7 x).2) from hm3))
theorem k_run2 {G : Cx} {d : Nat} {h h0 : List va_E} {a : Su} {s : Rn} {Q : Option Value → List va_E → Prop} (hd : 6 ≤ d) (hz : gz G = false) (hm : SU G h0 h a s) (hsk : a.2.2.2 < 8) {k : Nat} (hk : k < 8) {x : Int32} {dp : Nat} (hdp : dp ≤ 38) (hr : s.2 < 980) (k9 : ∀ h1, SU G h0 h1 a (rns s (lS a.2.2.1 a.2.2.2 k x).2) → Q (some (.int (lS a.2.2.1 a.2.2.2 k x).1)) h1) : AM G yX5_run cX5_run 7 (some .int) d 0 0 [.ref (gB G + 62), .int (nI k), .int (nI 2), .int x, .int (nI dp)] h Q := by
  rcases k8 hk with rfl | rfl | rfl | rfl | rfl | rfl | rfl | rfl
  · exact k_run2_0 (by omega) hz hm hsk (by omega) (by omega) k9
  · exact k_run2_1 (by omega) hz hm hsk (by omega) (by omega) k9
  · exact k_run2_2 (by omega) hz hm hsk (by omega) (by omega) k9
  · exact k_run2_3 (by omega) hz hm hsk (by omega) (by omega) k9
  · exact k_run2_4 (by omega) hz hm hsk (by omega) (by omega) k9
  · exact k_run2_5 (by omega) hz hm hsk (by omega) (by omega) k9
  · exact k_run2_6 (by omega) hz hm hsk (by omega) (by omega) k9
  · exact k_run2_7 (by omega) hz hm hsk (by omega) (by omega) k9
set_option maxRecDepth 100000 in
set_option maxHeartbeats 4000000 in
theorem k_body_10 {G : Cx} {d : Nat} {h h0 : List va_E} {a : Su} {s : Rn} {Q : Option Value → List va_E → Prop} (hd : 5 ≤ d) (hz : gz G = false) (hm : SU G h0 h a s) (hsk : a.2.2.2 < 8) {x : Int32} {dp : Nat} (hdp : dp ≤ 39) (hr : s.2 < 990) (k9 : ∀ h1, SU G h0 h1 a (rns s (tp10 a x).2) → Q (some (.int (tp10 a x).1)) h1) : AM G yX5_runTop cX5_runTop 4 (some .int) d 0 0 [.ref (gB G + 62), .int (nI (10)), .int (x), .int (nI (dp))] h Q := by
  obtain ⟨d, rfl, he⟩ := dpos hd
  refine AM.of [some (.ref (gB G + 62)), some (.int (nI (10))), some (.int (x)), some (.int (nI (dp)))] pnX5 (Nat.le_of_ble_eq_true rfl) (by simp [lsub, lvI, Value.category]) ?_
  refine a_iloadn_1 (pc := 0) dX5_runTop_0 ?_
  refine a_lookup (pc := 1) (off := 74) (tgt := 75) dX5_runTop_1 (by decide) (by decide) (by decide) ?_
  refine a_aloadn_0 (pc := 75) dX5_runTop_75 ?_
  refine a_aloadn_0 (pc := 76) dX5_runTop_76 ?_
  refine kg_41 (x := a.2.2.2) hm rfl dX5_runTop_77 rfl ?_
  refine a_iconst (pc := 80) (v := nI 0) dX5_runTop_80 (by decide) ?_
  refine a_iloadn_2 (pc := 81) dX5_runTop_81 ?_
  refine a_iloadn_3 (pc := 82) dX5_runTop_82 ?_
  refine cv_X5_44 (pc := 83) rfl dX5_runTop_83 hm.ob (Nat.le_of_ble_eq_true rfl) ?_
  refine k_run0 (by omega) hz hm hsk (k := a.2.2.2) hsk (dp := dp) (by omega) (by omega) (fun h1 hm1 => ?_)
  have hl1 := bS_len a.2.2.1 a.2.2.2 ((x))
  have hr1 := rns_len (bS a.2.2.1 a.2.2.2 ((x))).2 s
  refine a_iconst (pc := 86) (v := nI 2) dX5_runTop_86 (by decide) ?_
  refine a_imul (pc := 87) dX5_runTop_87 ?_
  exact a_iret (pc := 88) dX5_runTop_88 rfl (zf hz) (k9 _ (by rw [show rns s (tp10 a x).2 = (rns s (bS a.2.2.1 a.2.2.2 ((x))).2) from (by first | rfl | exact rns_app _ _ _)]; exact hm1))
set_option maxRecDepth 100000 in
set_option maxHeartbeats 4000000 in
theorem k_run1_0 {G : Cx} {d : Nat} {h h0 : List va_E} {a : Su} {s : Rn} {Q : Option Value → List va_E → Prop} (hd : 6 ≤ d) (hz : gz G = false) (hm : SU G h0 h a s) (hsk : a.2.2.2 < 8) {x : Int32} {dp : Nat} (hdp : dp ≤ 38) (hr : s.2 < 985) (k9 : ∀ h1, SU G h0 h1 a (rns s (hS a.2.2.1 a.2.2.2 0 x).2) → Q (some (.int (hS a.2.2.1 a.2.2.2 0 x).1)) h1) : AM G yX5_run cX5_run 7 (some .int) d 0 0 [.ref (gB G + 62), .int (nI (0)), .int (nI (1)), .int (x), .int (nI (dp))] h Q := by
  obtain ⟨d, rfl, he⟩ := dpos hd
  refine AM.of [some (.ref (gB G + 62)), some (.int (nI (0))), some (.int (nI (1))), some (.int (x)), some (.int (nI (dp))), none, none] pnX5 (Nat.le_of_ble_eq_true rfl) (by simp [lsub, lvI, Value.category]) ?_
  refine a_iload_4 (pc := 0) dX5_run_0 ?_
  refine a_bipush (pc := 2) (v := nI 40) dX5_run_2 (by decide) ?_
  refine n_icmp_gt (tgt := 17) dX5_run_4 (by decide) (by omega) (by decide) (fun c_4 => by omega) (fun c_4 => ?_)
  refine a_iloadn_1 (pc := 7) dX5_run_7 ?_
  refine a_iconst (pc := 8) (v := nI 0) dX5_run_8 (by decide) ?_
  refine a_bipush (pc := 9) (v := nI 7) dX5_run_9 (by decide) ?_
  refine cs_X5_22 (pc := 11) rfl dX5_run_11 (Nat.le_of_ble_eq_true rfl) ?_
  refine x_within (by omega) hz ?_
  refine a_topi (bI true) (by decide) ?_
  refine b_if_ne (pc := 14) (tgt := 19) dX5_run_14 (by decide) (fun c_14 => ?_) (fun c_14 => by cases c_14)
  refine a_iloadn_1 (pc := 19) dX5_run_19 ?_
  refine a_istore_5 (pc := 20) dX5_run_20 (by decide) (by first | rfl | trivial) ?_
  refine a_iconst (pc := 22) (v := nI 0) dX5_run_22 (by decide) ?_
  refine a_istore_6 (pc := 23) dX5_run_23 (by decide) (by first | rfl | trivial) ?_
  refine a_iload_6 (pc := 25) dX5_run_25 ?_
  refine a_bipush (pc := 27) (v := nI 8) dX5_run_27 (by decide) ?_
  refine n_icmp_ge (tgt := 64) dX5_run_29 (by decide) (by decide) (by decide) (fun c_29 => by omega) (fun c_29 => ?_)
  refine a_iload_5 (pc := 32) dX5_run_32 ?_
  refine n_if_le (tgt := 64) dX5_run_34 (by decide) (by decide) (fun c_34 => ?_) (fun c_34 => by omega)
  refine a_gets (pc := 64) (i := 4) (by decide) dX5_run_64 rfl w_895 ?_
  refine a_iload_5 (pc := 67) dX5_run_67 ?_
  refine a_iconst (pc := 69) (v := nI 4) dX5_run_69 (by decide) ?_
  refine n_imul dX5_run_70 ?_
  refine a_iloadn_2 (pc := 71) dX5_run_71 ?_
  refine n_iadd dX5_run_72 ?_
  refine a_sil (pc := 73) 1 (t := 4) (by decide) dX5_run_73 rfl (by decide) ?_
  refine a_topi (nI 10) (by decide) ?_
  refine a_istore_6 (pc := 74) dX5_run_74 (by decide) (by first | rfl | trivial) ?_
  refine a_aloadn_0 (pc := 76) dX5_run_76 ?_
  refine kg_29 (x := s.2) hm rfl dX5_run_77 rfl ?_
  refine a_bipush (pc := 80) (v := nI 24) dX5_run_80 (by decide) ?_
  refine n_icmp_ge (tgt := 96) dX5_run_82 (by decide) (by omega) (by decide) (fun c_82 => ?_) (fun c_82 => ?_)
  · have e9 : (rn s 10) = (s.1, s.2 + 1) := by unfold rn; rw [if_neg (by omega)]
    refine a_aloadn_0 (pc := 96) dX5_run_96 ?_
    refine a_dup (pc := 97) dX5_run_97 rfl ?_
    refine kg_29 (x := s.2) hm rfl dX5_run_98 rfl ?_
    refine a_iconst (pc := 101) (v := nI 1) dX5_run_101 (by decide) ?_
    refine n_iadd dX5_run_102 ?_
    refine kp_29 (x := s.2 + 1) hm rfl dX5_run_103 (fun h1 hm1 => ?_)
    have hm9 : SU G h0 h1 a (rn s 10) := by rw [e9]; exact hm1
    have er : (rn s 10).2 = s.2 + 1 := rfl
    refine a_iload_5 (pc := 106) dX5_run_106 ?_
    refine n_if_ne (tgt := 125) dX5_run_108 (by decide) (by decide) (fun c_108 => by omega) (fun c_108 => ?_)
    refine a_aloadn_0 (pc := 111) dX5_run_111 ?_
    refine a_iload_6 (pc := 112) dX5_run_112 ?_
    refine a_iloadn_3 (pc := 114) dX5_run_114 ?_
    refine a_iload_4 (pc := 115) dX5_run_115 ?_
    refine a_iconst (pc := 117) (v := nI 1) dX5_run_117 (by decide) ?_
    refine n_iadd dX5_run_118 ?_
    refine cv_X5_51 (pc := 119) rfl dX5_run_119 hm9.ob (Nat.le_of_ble_eq_true rfl) ?_
    refine k_body_10 (by omega) hz hm9 hsk (dp := (dp + 1)) (by omega) (by omega) (fun h2 hm2 => ?_)
    refine a_goto (pc := 122) (tgt := 138) dX5_run_122 (by decide) ?_
    exact a_iret (pc := 138) dX5_run_138 rfl (zf hz) (k9 _ (show SU G h0 _ a (rns s (hS a.2.2.1 a.2.2.2 0 x).2) from hm2))
  · have e9 : (rn s 10) = (va_up s.1 s.2 10, s.2 + 1) := by unfold rn; rw [if_pos c_82]
    refine a_aloadn_0 (pc := 85) dX5_run_85 ?_
    refine kg_15 hm rfl dX5_run_86 ?_
    refine a_aloadn_0 (pc := 89) dX5_run_89 ?_
    refine kg_29 (x := s.2) hm rfl dX5_run_90 rfl ?_
    refine a_iload_6 (pc := 93) dX5_run_93 ?_
    refine ks_trace (j := s.2) (x := 10) hm dX5_run_95 (by omega) (fun h1 hm1 => ?_)
    refine a_aloadn_0 (pc := 96) dX5_run_96 ?_
    refine a_dup (pc := 97) dX5_run_97 rfl ?_
    refine kg_29 (x := ((va_up s.1 s.2 10, s.2)).2) hm1 rfl dX5_run_98 rfl ?_
    refine a_iconst (pc := 101) (v := nI 1) dX5_run_101 (by decide) ?_
    refine n_iadd dX5_run_102 ?_
    refine kp_29 (x := ((va_up s.1 s.2 10, s.2)).2 + 1) hm1 rfl dX5_run_103 (fun h2 hm2 => ?_)
    have hm9 : SU G h0 h2 a (rn s 10) := by rw [e9]; exact hm2
    have er : (rn s 10).2 = s.2 + 1 := rfl
    refine a_iload_5 (pc := 106) dX5_run_106 ?_
    refine n_if_ne (tgt := 125) dX5_run_108 (by decide) (by decide) (fun c_108 => by omega) (fun c_108 => ?_)
    refine a_aloadn_0 (pc := 111) dX5_run_111 ?_
    refine a_iload_6 (pc := 112) dX5_run_112 ?_
    refine a_iloadn_3 (pc := 114) dX5_run_114 ?_
    refine a_iload_4 (pc := 115) dX5_run_115 ?_
    refine a_iconst (pc := 117) (v := nI 1) dX5_run_117 (by decide) ?_
    refine n_iadd dX5_run_118 ?_
    refine cv_X5_51 (pc := 119) rfl dX5_run_119 hm9.ob (Nat.le_of_ble_eq_true rfl) ?_
    refine k_body_10 (by omega) hz hm9 hsk (dp := (dp + 1)) (by omega) (by omega) (fun h3 hm3 => ?_)
    refine a_goto (pc := 122) (tgt := 138) dX5_run_122 (by decide) ?_
    exact a_iret (pc := 138) dX5_run_138 rfl (zf hz) (k9 _ (show SU G h0 _ a (rns s (hS a.2.2.1 a.2.2.2 0 x).2) from hm3))
set_option maxRecDepth 100000 in
set_option maxHeartbeats 4000000 in
theorem k_run1_1 {G : Cx} {d : Nat} {h h0 : List va_E} {a : Su} {s : Rn} {Q : Option Value → List va_E → Prop} (hd : 6 ≤ d) (hz : gz G = false) (hm : SU G h0 h a s) (hsk : a.2.2.2 < 8) {x : Int32} {dp : Nat} (hdp : dp ≤ 38) (hr : s.2 < 985) (k9 : ∀ h1, SU G h0 h1 a (rns s (hS a.2.2.1 a.2.2.2 1 x).2) → Q (some (.int (hS a.2.2.1 a.2.2.2 1 x).1)) h1) : AM G yX5_run cX5_run 7 (some .int) d 0 0 [.ref (gB G + 62), .int (nI (1)), .int (nI (1)), .int (x), .int (nI (dp))] h Q := by
  obtain ⟨d, rfl, he⟩ := dpos hd
  refine AM.of [some (.ref (gB G + 62)), some (.int (nI (1))), some (.int (nI (1))), some (.int (x)), some (.int (nI (dp))), none, none] pnX5 (Nat.le_of_ble_eq_true rfl) (by simp [lsub, lvI, Value.category]) ?_
  refine a_iload_4 (pc := 0) dX5_run_0 ?_
  refine a_bipush (pc := 2) (v := nI 40) dX5_run_2 (by decide) ?_
  refine n_icmp_gt (tgt := 17) dX5_run_4 (by decide) (by omega) (by decide) (fun c_4 => by omega) (fun c_4 => ?_)
  refine a_iloadn_1 (pc := 7) dX5_run_7 ?_
  refine a_iconst (pc := 8) (v := nI 0) dX5_run_8 (by decide) ?_
  refine a_bipush (pc := 9) (v := nI 7) dX5_run_9 (by decide) ?_
  refine cs_X5_22 (pc := 11) rfl dX5_run_11 (Nat.le_of_ble_eq_true rfl) ?_
  refine x_within (by omega) hz ?_
  refine a_topi (bI true) (by decide) ?_
  refine b_if_ne (pc := 14) (tgt := 19) dX5_run_14 (by decide) (fun c_14 => ?_) (fun c_14 => by cases c_14)
  refine a_iloadn_1 (pc := 19) dX5_run_19 ?_
  refine a_istore_5 (pc := 20) dX5_run_20 (by decide) (by first | rfl | trivial) ?_
  refine a_iconst (pc := 22) (v := nI 0) dX5_run_22 (by decide) ?_
  refine a_istore_6 (pc := 23) dX5_run_23 (by decide) (by first | rfl | trivial) ?_
  refine a_iload_6 (pc := 25) dX5_run_25 ?_
  refine a_bipush (pc := 27) (v := nI 8) dX5_run_27 (by decide) ?_
  refine n_icmp_ge (tgt := 64) dX5_run_29 (by decide) (by decide) (by decide) (fun c_29 => by omega) (fun c_29 => ?_)
  refine a_iload_5 (pc := 32) dX5_run_32 ?_
  refine n_if_le (tgt := 64) dX5_run_34 (by decide) (by decide) (fun c_34 => by omega) (fun c_34 => ?_)
  refine a_gets (pc := 37) (i := 4) (by decide) dX5_run_37 rfl w_895 ?_
  refine a_iload_5 (pc := 40) dX5_run_40 ?_
  refine a_iconst (pc := 42) (v := nI 4) dX5_run_42 (by decide) ?_
  refine n_imul dX5_run_43 ?_
  refine a_iloadn_2 (pc := 44) dX5_run_44 ?_
  refine n_iadd dX5_run_45 ?_
  refine a_sil (pc := 46) 5 (t := 4) (by decide) dX5_run_46 rfl (by decide) ?_
  refine a_topi (nI 0) (by decide) ?_
  refine n_if_ne (tgt := 64) dX5_run_47 (by decide) (by decide) (fun c_47 => by omega) (fun c_47 => ?_)
  refine a_gets (pc := 50) (i := 3) (by decide) dX5_run_50 rfl w_897 ?_
  refine a_iload_5 (pc := 53) dX5_run_53 ?_
  refine a_sil (pc := 55) 1 (t := 3) (by decide) dX5_run_55 rfl (by decide) ?_
  refine a_topi (nI 0) (by decide) ?_
  refine a_istore_5 (pc := 56) dX5_run_56 (by decide) (by first | rfl | trivial) ?_
  refine a_iinc_6 (pc := 58) (v := nI (1)) dX5_run_58 (nI_add _ _) (by decide) (by first | rfl | trivial) ?_
  refine a_goto (pc := 61) (tgt := 25) dX5_run_61 (by decide) ?_
  refine a_iload_6 (pc := 25) dX5_run_25 ?_
  refine a_bipush (pc := 27) (v := nI 8) dX5_run_27 (by decide) ?_
  refine n_icmp_ge (tgt := 64) dX5_run_29 (by decide) (by decide) (by decide) (fun c_29 => by omega) (fun c_29 => ?_)
  refine a_iload_5 (pc := 32) dX5_run_32 ?_
  refine n_if_le (tgt := 64) dX5_run_34 (by decide) (by decide) (fun c_34 => ?_) (fun c_34 => by omega)
  refine a_gets (pc := 64) (i := 4) (by decide) dX5_run_64 rfl w_895 ?_
  refine a_iload_5 (pc := 67) dX5_run_67 ?_
  refine a_iconst (pc := 69) (v := nI 4) dX5_run_69 (by decide) ?_
  refine n_imul dX5_run_70 ?_
  refine a_iloadn_2 (pc := 71) dX5_run_71 ?_
  refine n_iadd dX5_run_72 ?_
  refine a_sil (pc := 73) 1 (t := 4) (by decide) dX5_run_73 rfl (by decide) ?_
  refine a_topi (nI 10) (by decide) ?_
  refine a_istore_6 (pc := 74) dX5_run_74 (by decide) (by first | rfl | trivial) ?_
  refine a_aloadn_0 (pc := 76) dX5_run_76 ?_
  refine kg_29 (x := s.2) hm rfl dX5_run_77 rfl ?_
  refine a_bipush (pc := 80) (v := nI 24) dX5_run_80 (by decide) ?_
  refine n_icmp_ge (tgt := 96) dX5_run_82 (by decide) (by omega) (by decide) (fun c_82 => ?_) (fun c_82 => ?_)
  · have e9 : (rn s 10) = (s.1, s.2 + 1) := by unfold rn; rw [if_neg (by omega)]
    refine a_aloadn_0 (pc := 96) dX5_run_96 ?_
    refine a_dup (pc := 97) dX5_run_97 rfl ?_
    refine kg_29 (x := s.2) hm rfl dX5_run_98 rfl ?_
    refine a_iconst (pc := 101) (v := nI 1) dX5_run_101 (by decide) ?_
    refine n_iadd dX5_run_102 ?_
    refine kp_29 (x := s.2 + 1) hm rfl dX5_run_103 (fun h1 hm1 => ?_)
    have hm9 : SU G h0 h1 a (rn s 10) := by rw [e9]; exact hm1
    have er : (rn s 10).2 = s.2 + 1 := rfl
    refine a_iload_5 (pc := 106) dX5_run_106 ?_
    refine n_if_ne (tgt := 125) dX5_run_108 (by decide) (by decide) (fun c_108 => by omega) (fun c_108 => ?_)
    refine a_aloadn_0 (pc := 111) dX5_run_111 ?_
    refine a_iload_6 (pc := 112) dX5_run_112 ?_
    refine a_iloadn_3 (pc := 114) dX5_run_114 ?_
    refine a_iload_4 (pc := 115) dX5_run_115 ?_
    refine a_iconst (pc := 117) (v := nI 1) dX5_run_117 (by decide) ?_
    refine n_iadd dX5_run_118 ?_
    refine cv_X5_51 (pc := 119) rfl dX5_run_119 hm9.ob (Nat.le_of_ble_eq_true rfl) ?_
    refine k_body_10 (by omega) hz hm9 hsk (dp := (dp + 1)) (by omega) (by omega) (fun h2 hm2 => ?_)
    refine a_goto (pc := 122) (tgt := 138) dX5_run_122 (by decide) ?_
    exact a_iret (pc := 138) dX5_run_138 rfl (zf hz) (k9 _ (show SU G h0 _ a (rns s (hS a.2.2.1 a.2.2.2 1 x).2) from hm2))
  · have e9 : (rn s 10) = (va_up s.1 s.2 10, s.2 + 1) := by unfold rn; rw [if_pos c_82]
    refine a_aloadn_0 (pc := 85) dX5_run_85 ?_
    refine kg_15 hm rfl dX5_run_86 ?_
    refine a_aloadn_0 (pc := 89) dX5_run_89 ?_
    refine kg_29 (x := s.2) hm rfl dX5_run_90 rfl ?_
    refine a_iload_6 (pc := 93) dX5_run_93 ?_
    refine ks_trace (j := s.2) (x := 10) hm dX5_run_95 (by omega) (fun h1 hm1 => ?_)
    refine a_aloadn_0 (pc := 96) dX5_run_96 ?_
    refine a_dup (pc := 97) dX5_run_97 rfl ?_
    refine kg_29 (x := ((va_up s.1 s.2 10, s.2)).2) hm1 rfl dX5_run_98 rfl ?_
    refine a_iconst (pc := 101) (v := nI 1) dX5_run_101 (by decide) ?_
    refine n_iadd dX5_run_102 ?_
    refine kp_29 (x := ((va_up s.1 s.2 10, s.2)).2 + 1) hm1 rfl dX5_run_103 (fun h2 hm2 => ?_)
    have hm9 : SU G h0 h2 a (rn s 10) := by rw [e9]; exact hm2
    have er : (rn s 10).2 = s.2 + 1 := rfl
    refine a_iload_5 (pc := 106) dX5_run_106 ?_
    refine n_if_ne (tgt := 125) dX5_run_108 (by decide) (by decide) (fun c_108 => by omega) (fun c_108 => ?_)
    refine a_aloadn_0 (pc := 111) dX5_run_111 ?_
    refine a_iload_6 (pc := 112) dX5_run_112 ?_
    refine a_iloadn_3 (pc := 114) dX5_run_114 ?_
    refine a_iload_4 (pc := 115) dX5_run_115 ?_
    refine a_iconst (pc := 117) (v := nI 1) dX5_run_117 (by decide) ?_
    refine n_iadd dX5_run_118 ?_
    refine cv_X5_51 (pc := 119) rfl dX5_run_119 hm9.ob (Nat.le_of_ble_eq_true rfl) ?_
    refine k_body_10 (by omega) hz hm9 hsk (dp := (dp + 1)) (by omega) (by omega) (fun h3 hm3 => ?_)
    refine a_goto (pc := 122) (tgt := 138) dX5_run_122 (by decide) ?_
    exact a_iret (pc := 138) dX5_run_138 rfl (zf hz) (k9 _ (show SU G h0 _ a (rns s (hS a.2.2.1 a.2.2.2 1 x).2) from hm3))
set_option maxRecDepth 100000 in
set_option maxHeartbeats 4000000 in
theorem k_run1_4 {G : Cx} {d : Nat} {h h0 : List va_E} {a : Su} {s : Rn} {Q : Option Value → List va_E → Prop} (hd : 6 ≤ d) (hz : gz G = false) (hm : SU G h0 h a s) (hsk : a.2.2.2 < 8) {x : Int32} {dp : Nat} (hdp : dp ≤ 38) (hr : s.2 < 985) (k9 : ∀ h1, SU G h0 h1 a (rns s (hS a.2.2.1 a.2.2.2 4 x).2) → Q (some (.int (hS a.2.2.1 a.2.2.2 4 x).1)) h1) : AM G yX5_run cX5_run 7 (some .int) d 0 0 [.ref (gB G + 62), .int (nI (4)), .int (nI (1)), .int (x), .int (nI (dp))] h Q := by
  obtain ⟨d, rfl, he⟩ := dpos hd
  refine AM.of [some (.ref (gB G + 62)), some (.int (nI (4))), some (.int (nI (1))), some (.int (x)), some (.int (nI (dp))), none, none] pnX5 (Nat.le_of_ble_eq_true rfl) (by simp [lsub, lvI, Value.category]) ?_
  refine a_iload_4 (pc := 0) dX5_run_0 ?_
  refine a_bipush (pc := 2) (v := nI 40) dX5_run_2 (by decide) ?_
  refine n_icmp_gt (tgt := 17) dX5_run_4 (by decide) (by omega) (by decide) (fun c_4 => by omega) (fun c_4 => ?_)
  refine a_iloadn_1 (pc := 7) dX5_run_7 ?_
  refine a_iconst (pc := 8) (v := nI 0) dX5_run_8 (by decide) ?_
  refine a_bipush (pc := 9) (v := nI 7) dX5_run_9 (by decide) ?_
  refine cs_X5_22 (pc := 11) rfl dX5_run_11 (Nat.le_of_ble_eq_true rfl) ?_
  refine x_within (by omega) hz ?_
  refine a_topi (bI true) (by decide) ?_
  refine b_if_ne (pc := 14) (tgt := 19) dX5_run_14 (by decide) (fun c_14 => ?_) (fun c_14 => by cases c_14)
  refine a_iloadn_1 (pc := 19) dX5_run_19 ?_
  refine a_istore_5 (pc := 20) dX5_run_20 (by decide) (by first | rfl | trivial) ?_
  refine a_iconst (pc := 22) (v := nI 0) dX5_run_22 (by decide) ?_
  refine a_istore_6 (pc := 23) dX5_run_23 (by decide) (by first | rfl | trivial) ?_
  refine a_iload_6 (pc := 25) dX5_run_25 ?_
  refine a_bipush (pc := 27) (v := nI 8) dX5_run_27 (by decide) ?_
  refine n_icmp_ge (tgt := 64) dX5_run_29 (by decide) (by decide) (by decide) (fun c_29 => by omega) (fun c_29 => ?_)
  refine a_iload_5 (pc := 32) dX5_run_32 ?_
  refine n_if_le (tgt := 64) dX5_run_34 (by decide) (by decide) (fun c_34 => by omega) (fun c_34 => ?_)
  refine a_gets (pc := 37) (i := 4) (by decide) dX5_run_37 rfl w_895 ?_
  refine a_iload_5 (pc := 40) dX5_run_40 ?_
  refine a_iconst (pc := 42) (v := nI 4) dX5_run_42 (by decide) ?_
  refine n_imul dX5_run_43 ?_
  refine a_iloadn_2 (pc := 44) dX5_run_44 ?_
  refine n_iadd dX5_run_45 ?_
  refine a_sil (pc := 46) 17 (t := 4) (by decide) dX5_run_46 rfl (by decide) ?_
  refine a_topi (nI 0) (by decide) ?_
  refine n_if_ne (tgt := 64) dX5_run_47 (by decide) (by decide) (fun c_47 => by omega) (fun c_47 => ?_)
  refine a_gets (pc := 50) (i := 3) (by decide) dX5_run_50 rfl w_897 ?_
  refine a_iload_5 (pc := 53) dX5_run_53 ?_
  refine a_sil (pc := 55) 4 (t := 3) (by decide) dX5_run_55 rfl (by decide) ?_
  refine a_topi (nI 1) (by decide) ?_
  refine a_istore_5 (pc := 56) dX5_run_56 (by decide) (by first | rfl | trivial) ?_
  refine a_iinc_6 (pc := 58) (v := nI (1)) dX5_run_58 (nI_add _ _) (by decide) (by first | rfl | trivial) ?_
  refine a_goto (pc := 61) (tgt := 25) dX5_run_61 (by decide) ?_
  refine a_iload_6 (pc := 25) dX5_run_25 ?_
  refine a_bipush (pc := 27) (v := nI 8) dX5_run_27 (by decide) ?_
  refine n_icmp_ge (tgt := 64) dX5_run_29 (by decide) (by decide) (by decide) (fun c_29 => by omega) (fun c_29 => ?_)
  refine a_iload_5 (pc := 32) dX5_run_32 ?_
  refine n_if_le (tgt := 64) dX5_run_34 (by decide) (by decide) (fun c_34 => by omega) (fun c_34 => ?_)
  refine a_gets (pc := 37) (i := 4) (by decide) dX5_run_37 rfl w_895 ?_
  refine a_iload_5 (pc := 40) dX5_run_40 ?_
  refine a_iconst (pc := 42) (v := nI 4) dX5_run_42 (by decide) ?_
  refine n_imul dX5_run_43 ?_
  refine a_iloadn_2 (pc := 44) dX5_run_44 ?_
  refine n_iadd dX5_run_45 ?_
  refine a_sil (pc := 46) 5 (t := 4) (by decide) dX5_run_46 rfl (by decide) ?_
  refine a_topi (nI 0) (by decide) ?_
  refine n_if_ne (tgt := 64) dX5_run_47 (by decide) (by decide) (fun c_47 => by omega) (fun c_47 => ?_)
  refine a_gets (pc := 50) (i := 3) (by decide) dX5_run_50 rfl w_897 ?_
  refine a_iload_5 (pc := 53) dX5_run_53 ?_
  refine a_sil (pc := 55) 1 (t := 3) (by decide) dX5_run_55 rfl (by decide) ?_
  refine a_topi (nI 0) (by decide) ?_
  refine a_istore_5 (pc := 56) dX5_run_56 (by decide) (by first | rfl | trivial) ?_
  refine a_iinc_6 (pc := 58) (v := nI (2)) dX5_run_58 (nI_add _ _) (by decide) (by first | rfl | trivial) ?_
  refine a_goto (pc := 61) (tgt := 25) dX5_run_61 (by decide) ?_
  refine a_iload_6 (pc := 25) dX5_run_25 ?_
  refine a_bipush (pc := 27) (v := nI 8) dX5_run_27 (by decide) ?_
  refine n_icmp_ge (tgt := 64) dX5_run_29 (by decide) (by decide) (by decide) (fun c_29 => by omega) (fun c_29 => ?_)
  refine a_iload_5 (pc := 32) dX5_run_32 ?_
  refine n_if_le (tgt := 64) dX5_run_34 (by decide) (by decide) (fun c_34 => ?_) (fun c_34 => by omega)
  refine a_gets (pc := 64) (i := 4) (by decide) dX5_run_64 rfl w_895 ?_
  refine a_iload_5 (pc := 67) dX5_run_67 ?_
  refine a_iconst (pc := 69) (v := nI 4) dX5_run_69 (by decide) ?_
  refine n_imul dX5_run_70 ?_
  refine a_iloadn_2 (pc := 71) dX5_run_71 ?_
  refine n_iadd dX5_run_72 ?_
  refine a_sil (pc := 73) 1 (t := 4) (by decide) dX5_run_73 rfl (by decide) ?_
  refine a_topi (nI 10) (by decide) ?_
  refine a_istore_6 (pc := 74) dX5_run_74 (by decide) (by first | rfl | trivial) ?_
  refine a_aloadn_0 (pc := 76) dX5_run_76 ?_
  refine kg_29 (x := s.2) hm rfl dX5_run_77 rfl ?_
  refine a_bipush (pc := 80) (v := nI 24) dX5_run_80 (by decide) ?_
  refine n_icmp_ge (tgt := 96) dX5_run_82 (by decide) (by omega) (by decide) (fun c_82 => ?_) (fun c_82 => ?_)
  · have e9 : (rn s 10) = (s.1, s.2 + 1) := by unfold rn; rw [if_neg (by omega)]
    refine a_aloadn_0 (pc := 96) dX5_run_96 ?_
    refine a_dup (pc := 97) dX5_run_97 rfl ?_
    refine kg_29 (x := s.2) hm rfl dX5_run_98 rfl ?_
    refine a_iconst (pc := 101) (v := nI 1) dX5_run_101 (by decide) ?_
    refine n_iadd dX5_run_102 ?_
    refine kp_29 (x := s.2 + 1) hm rfl dX5_run_103 (fun h1 hm1 => ?_)
    have hm9 : SU G h0 h1 a (rn s 10) := by rw [e9]; exact hm1
    have er : (rn s 10).2 = s.2 + 1 := rfl
    refine a_iload_5 (pc := 106) dX5_run_106 ?_
    refine n_if_ne (tgt := 125) dX5_run_108 (by decide) (by decide) (fun c_108 => by omega) (fun c_108 => ?_)
    refine a_aloadn_0 (pc := 111) dX5_run_111 ?_
    refine a_iload_6 (pc := 112) dX5_run_112 ?_
    refine a_iloadn_3 (pc := 114) dX5_run_114 ?_
    refine a_iload_4 (pc := 115) dX5_run_115 ?_
    refine a_iconst (pc := 117) (v := nI 1) dX5_run_117 (by decide) ?_
    refine n_iadd dX5_run_118 ?_
    refine cv_X5_51 (pc := 119) rfl dX5_run_119 hm9.ob (Nat.le_of_ble_eq_true rfl) ?_
    refine k_body_10 (by omega) hz hm9 hsk (dp := (dp + 1)) (by omega) (by omega) (fun h2 hm2 => ?_)
    refine a_goto (pc := 122) (tgt := 138) dX5_run_122 (by decide) ?_
    exact a_iret (pc := 138) dX5_run_138 rfl (zf hz) (k9 _ (show SU G h0 _ a (rns s (hS a.2.2.1 a.2.2.2 4 x).2) from hm2))
  · have e9 : (rn s 10) = (va_up s.1 s.2 10, s.2 + 1) := by unfold rn; rw [if_pos c_82]
    refine a_aloadn_0 (pc := 85) dX5_run_85 ?_
    refine kg_15 hm rfl dX5_run_86 ?_
    refine a_aloadn_0 (pc := 89) dX5_run_89 ?_
    refine kg_29 (x := s.2) hm rfl dX5_run_90 rfl ?_
    refine a_iload_6 (pc := 93) dX5_run_93 ?_
    refine ks_trace (j := s.2) (x := 10) hm dX5_run_95 (by omega) (fun h1 hm1 => ?_)
    refine a_aloadn_0 (pc := 96) dX5_run_96 ?_
    refine a_dup (pc := 97) dX5_run_97 rfl ?_
    refine kg_29 (x := ((va_up s.1 s.2 10, s.2)).2) hm1 rfl dX5_run_98 rfl ?_
    refine a_iconst (pc := 101) (v := nI 1) dX5_run_101 (by decide) ?_
    refine n_iadd dX5_run_102 ?_
    refine kp_29 (x := ((va_up s.1 s.2 10, s.2)).2 + 1) hm1 rfl dX5_run_103 (fun h2 hm2 => ?_)
    have hm9 : SU G h0 h2 a (rn s 10) := by rw [e9]; exact hm2
    have er : (rn s 10).2 = s.2 + 1 := rfl
    refine a_iload_5 (pc := 106) dX5_run_106 ?_
    refine n_if_ne (tgt := 125) dX5_run_108 (by decide) (by decide) (fun c_108 => by omega) (fun c_108 => ?_)
    refine a_aloadn_0 (pc := 111) dX5_run_111 ?_
    refine a_iload_6 (pc := 112) dX5_run_112 ?_
    refine a_iloadn_3 (pc := 114) dX5_run_114 ?_
    refine a_iload_4 (pc := 115) dX5_run_115 ?_
    refine a_iconst (pc := 117) (v := nI 1) dX5_run_117 (by decide) ?_
    refine n_iadd dX5_run_118 ?_
    refine cv_X5_51 (pc := 119) rfl dX5_run_119 hm9.ob (Nat.le_of_ble_eq_true rfl) ?_
    refine k_body_10 (by omega) hz hm9 hsk (dp := (dp + 1)) (by omega) (by omega) (fun h3 hm3 => ?_)
    refine a_goto (pc := 122) (tgt := 138) dX5_run_122 (by decide) ?_
    exact a_iret (pc := 138) dX5_run_138 rfl (zf hz) (k9 _ (show SU G h0 _ a (rns s (hS a.2.2.1 a.2.2.2 4 x).2) from hm3))
set_option maxRecDepth 100000 in
set_option maxHeartbeats 4000000 in
theorem k_run1_6 {G : Cx} {d : Nat} {h h0 : List va_E} {a : Su} {s : Rn} {Q : Option Value → List va_E → Prop} (hd : 6 ≤ d) (hz : gz G = false) (hm : SU G h0 h a s) (hsk : a.2.2.2 < 8) {x : Int32} {dp : Nat} (hdp : dp ≤ 38) (hr : s.2 < 985) (k9 : ∀ h1, SU G h0 h1 a (rns s (hS a.2.2.1 a.2.2.2 6 x).2) → Q (some (.int (hS a.2.2.1 a.2.2.2 6 x).1)) h1) : AM G yX5_run cX5_run 7 (some .int) d 0 0 [.ref (gB G + 62), .int (nI (6)), .int (nI (1)), .int (x), .int (nI (dp))] h Q := by
  obtain ⟨d, rfl, he⟩ := dpos hd
  refine AM.of [some (.ref (gB G + 62)), some (.int (nI (6))), some (.int (nI (1))), some (.int (x)), some (.int (nI (dp))), none, none] pnX5 (Nat.le_of_ble_eq_true rfl) (by simp [lsub, lvI, Value.category]) ?_
  refine a_iload_4 (pc := 0) dX5_run_0 ?_
  refine a_bipush (pc := 2) (v := nI 40) dX5_run_2 (by decide) ?_
  refine n_icmp_gt (tgt := 17) dX5_run_4 (by decide) (by omega) (by decide) (fun c_4 => by omega) (fun c_4 => ?_)
  refine a_iloadn_1 (pc := 7) dX5_run_7 ?_
  refine a_iconst (pc := 8) (v := nI 0) dX5_run_8 (by decide) ?_
  refine a_bipush (pc := 9) (v := nI 7) dX5_run_9 (by decide) ?_
  refine cs_X5_22 (pc := 11) rfl dX5_run_11 (Nat.le_of_ble_eq_true rfl) ?_
  refine x_within (by omega) hz ?_
  refine a_topi (bI true) (by decide) ?_
  refine b_if_ne (pc := 14) (tgt := 19) dX5_run_14 (by decide) (fun c_14 => ?_) (fun c_14 => by cases c_14)
  refine a_iloadn_1 (pc := 19) dX5_run_19 ?_
  refine a_istore_5 (pc := 20) dX5_run_20 (by decide) (by first | rfl | trivial) ?_
  refine a_iconst (pc := 22) (v := nI 0) dX5_run_22 (by decide) ?_
  refine a_istore_6 (pc := 23) dX5_run_23 (by decide) (by first | rfl | trivial) ?_
  refine a_iload_6 (pc := 25) dX5_run_25 ?_
  refine a_bipush (pc := 27) (v := nI 8) dX5_run_27 (by decide) ?_
  refine n_icmp_ge (tgt := 64) dX5_run_29 (by decide) (by decide) (by decide) (fun c_29 => by omega) (fun c_29 => ?_)
  refine a_iload_5 (pc := 32) dX5_run_32 ?_
  refine n_if_le (tgt := 64) dX5_run_34 (by decide) (by decide) (fun c_34 => by omega) (fun c_34 => ?_)
  refine a_gets (pc := 37) (i := 4) (by decide) dX5_run_37 rfl w_895 ?_
  refine a_iload_5 (pc := 40) dX5_run_40 ?_
  refine a_iconst (pc := 42) (v := nI 4) dX5_run_42 (by decide) ?_
  refine n_imul dX5_run_43 ?_
  refine a_iloadn_2 (pc := 44) dX5_run_44 ?_
  refine n_iadd dX5_run_45 ?_
  refine a_sil (pc := 46) 25 (t := 4) (by decide) dX5_run_46 rfl (by decide) ?_
  refine a_topi (nI 0) (by decide) ?_
  refine n_if_ne (tgt := 64) dX5_run_47 (by decide) (by decide) (fun c_47 => by omega) (fun c_47 => ?_)
  refine a_gets (pc := 50) (i := 3) (by decide) dX5_run_50 rfl w_897 ?_
  refine a_iload_5 (pc := 53) dX5_run_53 ?_
  refine a_sil (pc := 55) 6 (t := 3) (by decide) dX5_run_55 rfl (by decide) ?_
  refine a_topi (nI 0) (by decide) ?_
  refine a_istore_5 (pc := 56) dX5_run_56 (by decide) (by first | rfl | trivial) ?_
  refine a_iinc_6 (pc := 58) (v := nI (1)) dX5_run_58 (nI_add _ _) (by decide) (by first | rfl | trivial) ?_
  refine a_goto (pc := 61) (tgt := 25) dX5_run_61 (by decide) ?_
  refine a_iload_6 (pc := 25) dX5_run_25 ?_
  refine a_bipush (pc := 27) (v := nI 8) dX5_run_27 (by decide) ?_
  refine n_icmp_ge (tgt := 64) dX5_run_29 (by decide) (by decide) (by decide) (fun c_29 => by omega) (fun c_29 => ?_)
  refine a_iload_5 (pc := 32) dX5_run_32 ?_
  refine n_if_le (tgt := 64) dX5_run_34 (by decide) (by decide) (fun c_34 => ?_) (fun c_34 => by omega)
  refine a_gets (pc := 64) (i := 4) (by decide) dX5_run_64 rfl w_895 ?_
  refine a_iload_5 (pc := 67) dX5_run_67 ?_
  refine a_iconst (pc := 69) (v := nI 4) dX5_run_69 (by decide) ?_
  refine n_imul dX5_run_70 ?_
  refine a_iloadn_2 (pc := 71) dX5_run_71 ?_
  refine n_iadd dX5_run_72 ?_
  refine a_sil (pc := 73) 1 (t := 4) (by decide) dX5_run_73 rfl (by decide) ?_
  refine a_topi (nI 10) (by decide) ?_
  refine a_istore_6 (pc := 74) dX5_run_74 (by decide) (by first | rfl | trivial) ?_
  refine a_aloadn_0 (pc := 76) dX5_run_76 ?_
  refine kg_29 (x := s.2) hm rfl dX5_run_77 rfl ?_
  refine a_bipush (pc := 80) (v := nI 24) dX5_run_80 (by decide) ?_
  refine n_icmp_ge (tgt := 96) dX5_run_82 (by decide) (by omega) (by decide) (fun c_82 => ?_) (fun c_82 => ?_)
  · have e9 : (rn s 10) = (s.1, s.2 + 1) := by unfold rn; rw [if_neg (by omega)]
    refine a_aloadn_0 (pc := 96) dX5_run_96 ?_
    refine a_dup (pc := 97) dX5_run_97 rfl ?_
    refine kg_29 (x := s.2) hm rfl dX5_run_98 rfl ?_
    refine a_iconst (pc := 101) (v := nI 1) dX5_run_101 (by decide) ?_
    refine n_iadd dX5_run_102 ?_
    refine kp_29 (x := s.2 + 1) hm rfl dX5_run_103 (fun h1 hm1 => ?_)
    have hm9 : SU G h0 h1 a (rn s 10) := by rw [e9]; exact hm1
    have er : (rn s 10).2 = s.2 + 1 := rfl
    refine a_iload_5 (pc := 106) dX5_run_106 ?_
    refine n_if_ne (tgt := 125) dX5_run_108 (by decide) (by decide) (fun c_108 => by omega) (fun c_108 => ?_)
    refine a_aloadn_0 (pc := 111) dX5_run_111 ?_
    refine a_iload_6 (pc := 112) dX5_run_112 ?_
    refine a_iloadn_3 (pc := 114) dX5_run_114 ?_
    refine a_iload_4 (pc := 115) dX5_run_115 ?_
    refine a_iconst (pc := 117) (v := nI 1) dX5_run_117 (by decide) ?_
    refine n_iadd dX5_run_118 ?_
    refine cv_X5_51 (pc := 119) rfl dX5_run_119 hm9.ob (Nat.le_of_ble_eq_true rfl) ?_
    refine k_body_10 (by omega) hz hm9 hsk (dp := (dp + 1)) (by omega) (by omega) (fun h2 hm2 => ?_)
    refine a_goto (pc := 122) (tgt := 138) dX5_run_122 (by decide) ?_
    exact a_iret (pc := 138) dX5_run_138 rfl (zf hz) (k9 _ (show SU G h0 _ a (rns s (hS a.2.2.1 a.2.2.2 6 x).2) from hm2))
  · have e9 : (rn s 10) = (va_up s.1 s.2 10, s.2 + 1) := by unfold rn; rw [if_pos c_82]
    refine a_aloadn_0 (pc := 85) dX5_run_85 ?_
    refine kg_15 hm rfl dX5_run_86 ?_
    refine a_aloadn_0 (pc := 89) dX5_run_89 ?_
    refine kg_29 (x := s.2) hm rfl dX5_run_90 rfl ?_
    refine a_iload_6 (pc := 93) dX5_run_93 ?_
    refine ks_trace (j := s.2) (x := 10) hm dX5_run_95 (by omega) (fun h1 hm1 => ?_)
    refine a_aloadn_0 (pc := 96) dX5_run_96 ?_
    refine a_dup (pc := 97) dX5_run_97 rfl ?_
    refine kg_29 (x := ((va_up s.1 s.2 10, s.2)).2) hm1 rfl dX5_run_98 rfl ?_
    refine a_iconst (pc := 101) (v := nI 1) dX5_run_101 (by decide) ?_
    refine n_iadd dX5_run_102 ?_
    refine kp_29 (x := ((va_up s.1 s.2 10, s.2)).2 + 1) hm1 rfl dX5_run_103 (fun h2 hm2 => ?_)
    have hm9 : SU G h0 h2 a (rn s 10) := by rw [e9]; exact hm2
    have er : (rn s 10).2 = s.2 + 1 := rfl
    refine a_iload_5 (pc := 106) dX5_run_106 ?_
    refine n_if_ne (tgt := 125) dX5_run_108 (by decide) (by decide) (fun c_108 => by omega) (fun c_108 => ?_)
    refine a_aloadn_0 (pc := 111) dX5_run_111 ?_
    refine a_iload_6 (pc := 112) dX5_run_112 ?_
    refine a_iloadn_3 (pc := 114) dX5_run_114 ?_
    refine a_iload_4 (pc := 115) dX5_run_115 ?_
    refine a_iconst (pc := 117) (v := nI 1) dX5_run_117 (by decide) ?_
    refine n_iadd dX5_run_118 ?_
    refine cv_X5_51 (pc := 119) rfl dX5_run_119 hm9.ob (Nat.le_of_ble_eq_true rfl) ?_
    refine k_body_10 (by omega) hz hm9 hsk (dp := (dp + 1)) (by omega) (by omega) (fun h3 hm3 => ?_)
    refine a_goto (pc := 122) (tgt := 138) dX5_run_122 (by decide) ?_
    exact a_iret (pc := 138) dX5_run_138 rfl (zf hz) (k9 _ (show SU G h0 _ a (rns s (hS a.2.2.1 a.2.2.2 6 x).2) from hm3))
set_option maxRecDepth 100000 in
set_option maxHeartbeats 4000000 in
theorem k_body_30 {G : Cx} {d : Nat} {h h0 : List va_E} {a : Su} {s : Rn} {Q : Option Value → List va_E → Prop} (hd : 7 ≤ d) (hz : gz G = false) (hm : SU G h0 h a s) (hsk : a.2.2.2 < 8) {x : Int32} {dp : Nat} (hdp : dp ≤ 38) (hr : s.2 < 985) (k9 : ∀ h1, SU G h0 h1 a (rns s (ud30 a x).2) → Q (some (.int (ud30 a x).1)) h1) : AM G yX5_runUnder cX5_runUnder 6 (some .int) d 0 0 [.ref (gB G + 62), .int (nI (30)), .int (nI (2)), .int (x), .int (nI (dp))] h Q := by
  obtain ⟨d, rfl, he⟩ := dpos hd
  refine AM.of [some (.ref (gB G + 62)), some (.int (nI (30))), some (.int (nI (2))), some (.int (x)), some (.int (nI (dp))), none] pnX5 (Nat.le_of_ble_eq_true rfl) (by simp [lsub, lvI, Value.category]) ?_
  refine a_gets (pc := 0) (i := 3) (by decide) dX5_runUnder_0 rfl w_897 ?_
  refine a_iloadn_2 (pc := 3) dX5_runUnder_3 ?_
  refine a_sil (pc := 4) 2 (t := 3) (by decide) dX5_runUnder_4 rfl (by decide) ?_
  refine a_topi (nI 0) (by decide) ?_
  refine a_istore_5 (pc := 5) dX5_runUnder_5 (by decide) (by first | rfl | trivial) ?_
  refine a_iloadn_1 (pc := 7) dX5_runUnder_7 ?_
  refine a_lookup (pc := 8) (off := 97) (tgt := 105) dX5_runUnder_8 (by decide) (by decide) (by decide) ?_
  refine a_aloadn_0 (pc := 105) dX5_runUnder_105 ?_
  refine a_iload_5 (pc := 106) dX5_runUnder_106 ?_
  refine a_iconst (pc := 108) (v := nI 1) dX5_runUnder_108 (by decide) ?_
  refine a_iloadn_3 (pc := 109) dX5_runUnder_109 ?_
  refine a_iload_4 (pc := 110) dX5_runUnder_110 ?_
  refine cv_X5_44 (pc := 112) rfl dX5_runUnder_112 hm.ob (Nat.le_of_ble_eq_true rfl) ?_
  refine k_run1_0 (by omega) hz hm hsk (dp := dp) (by omega) (by omega) (fun h1 hm1 => ?_)
  have hl1 := hS_len a.2.2.1 a.2.2.2 0 ((x))
  have hr1 := rns_len (hS a.2.2.1 a.2.2.2 0 ((x))).2 s
  refine a_ineg (pc := 115) dX5_runUnder_115 ?_
  exact a_iret (pc := 116) dX5_runUnder_116 rfl (zf hz) (k9 _ (by rw [show rns s (ud30 a x).2 = (rns s (hS a.2.2.1 a.2.2.2 0 ((x))).2) from (by first | rfl | exact rns_app _ _ _)]; exact hm1))
set_option maxRecDepth 100000 in
set_option maxHeartbeats 4000000 in
theorem k_run1_2 {G : Cx} {d : Nat} {h h0 : List va_E} {a : Su} {s : Rn} {Q : Option Value → List va_E → Prop} (hd : 8 ≤ d) (hz : gz G = false) (hm : SU G h0 h a s) (hsk : a.2.2.2 < 8) {x : Int32} {dp : Nat} (hdp : dp ≤ 37) (hr : s.2 < 984) (k9 : ∀ h1, SU G h0 h1 a (rns s (hS a.2.2.1 a.2.2.2 2 x).2) → Q (some (.int (hS a.2.2.1 a.2.2.2 2 x).1)) h1) : AM G yX5_run cX5_run 7 (some .int) d 0 0 [.ref (gB G + 62), .int (nI (2)), .int (nI (1)), .int (x), .int (nI (dp))] h Q := by
  obtain ⟨d, rfl, he⟩ := dpos hd
  refine AM.of [some (.ref (gB G + 62)), some (.int (nI (2))), some (.int (nI (1))), some (.int (x)), some (.int (nI (dp))), none, none] pnX5 (Nat.le_of_ble_eq_true rfl) (by simp [lsub, lvI, Value.category]) ?_
  refine a_iload_4 (pc := 0) dX5_run_0 ?_
  refine a_bipush (pc := 2) (v := nI 40) dX5_run_2 (by decide) ?_
  refine n_icmp_gt (tgt := 17) dX5_run_4 (by decide) (by omega) (by decide) (fun c_4 => by omega) (fun c_4 => ?_)
  refine a_iloadn_1 (pc := 7) dX5_run_7 ?_
  refine a_iconst (pc := 8) (v := nI 0) dX5_run_8 (by decide) ?_
  refine a_bipush (pc := 9) (v := nI 7) dX5_run_9 (by decide) ?_
  refine cs_X5_22 (pc := 11) rfl dX5_run_11 (Nat.le_of_ble_eq_true rfl) ?_
  refine x_within (by omega) hz ?_
  refine a_topi (bI true) (by decide) ?_
  refine b_if_ne (pc := 14) (tgt := 19) dX5_run_14 (by decide) (fun c_14 => ?_) (fun c_14 => by cases c_14)
  refine a_iloadn_1 (pc := 19) dX5_run_19 ?_
  refine a_istore_5 (pc := 20) dX5_run_20 (by decide) (by first | rfl | trivial) ?_
  refine a_iconst (pc := 22) (v := nI 0) dX5_run_22 (by decide) ?_
  refine a_istore_6 (pc := 23) dX5_run_23 (by decide) (by first | rfl | trivial) ?_
  refine a_iload_6 (pc := 25) dX5_run_25 ?_
  refine a_bipush (pc := 27) (v := nI 8) dX5_run_27 (by decide) ?_
  refine n_icmp_ge (tgt := 64) dX5_run_29 (by decide) (by decide) (by decide) (fun c_29 => by omega) (fun c_29 => ?_)
  refine a_iload_5 (pc := 32) dX5_run_32 ?_
  refine n_if_le (tgt := 64) dX5_run_34 (by decide) (by decide) (fun c_34 => by omega) (fun c_34 => ?_)
  refine a_gets (pc := 37) (i := 4) (by decide) dX5_run_37 rfl w_895 ?_
  refine a_iload_5 (pc := 40) dX5_run_40 ?_
  refine a_iconst (pc := 42) (v := nI 4) dX5_run_42 (by decide) ?_
  refine n_imul dX5_run_43 ?_
  refine a_iloadn_2 (pc := 44) dX5_run_44 ?_
  refine n_iadd dX5_run_45 ?_
  refine a_sil (pc := 46) 9 (t := 4) (by decide) dX5_run_46 rfl (by decide) ?_
  refine a_topi (nI 30) (by decide) ?_
  refine n_if_ne (tgt := 64) dX5_run_47 (by decide) (by decide) (fun c_47 => ?_) (fun c_47 => by omega)
  refine a_gets (pc := 64) (i := 4) (by decide) dX5_run_64 rfl w_895 ?_
  refine a_iload_5 (pc := 67) dX5_run_67 ?_
  refine a_iconst (pc := 69) (v := nI 4) dX5_run_69 (by decide) ?_
  refine n_imul dX5_run_70 ?_
  refine a_iloadn_2 (pc := 71) dX5_run_71 ?_
  refine n_iadd dX5_run_72 ?_
  refine a_sil (pc := 73) 9 (t := 4) (by decide) dX5_run_73 rfl (by decide) ?_
  refine a_topi (nI 30) (by decide) ?_
  refine a_istore_6 (pc := 74) dX5_run_74 (by decide) (by first | rfl | trivial) ?_
  refine a_aloadn_0 (pc := 76) dX5_run_76 ?_
  refine kg_29 (x := s.2) hm rfl dX5_run_77 rfl ?_
  refine a_bipush (pc := 80) (v := nI 24) dX5_run_80 (by decide) ?_
  refine n_icmp_ge (tgt := 96) dX5_run_82 (by decide) (by omega) (by decide) (fun c_82 => ?_) (fun c_82 => ?_)
  · have e9 : (rn s 30) = (s.1, s.2 + 1) := by unfold rn; rw [if_neg (by omega)]
    refine a_aloadn_0 (pc := 96) dX5_run_96 ?_
    refine a_dup (pc := 97) dX5_run_97 rfl ?_
    refine kg_29 (x := s.2) hm rfl dX5_run_98 rfl ?_
    refine a_iconst (pc := 101) (v := nI 1) dX5_run_101 (by decide) ?_
    refine n_iadd dX5_run_102 ?_
    refine kp_29 (x := s.2 + 1) hm rfl dX5_run_103 (fun h1 hm1 => ?_)
    have hm9 : SU G h0 h1 a (rn s 30) := by rw [e9]; exact hm1
    have er : (rn s 30).2 = s.2 + 1 := rfl
    refine a_iload_5 (pc := 106) dX5_run_106 ?_
    refine n_if_ne (tgt := 125) dX5_run_108 (by decide) (by decide) (fun c_108 => ?_) (fun c_108 => by omega)
    refine a_aloadn_0 (pc := 125) dX5_run_125 ?_
    refine a_iload_6 (pc := 126) dX5_run_126 ?_
    refine a_iload_5 (pc := 128) dX5_run_128 ?_
    refine a_iloadn_3 (pc := 130) dX5_run_130 ?_
    refine a_iload_4 (pc := 131) dX5_run_131 ?_
    refine a_iconst (pc := 133) (v := nI 1) dX5_run_133 (by decide) ?_
    refine n_iadd dX5_run_134 ?_
    refine cv_X5_55 (pc := 135) rfl dX5_run_135 hm9.ob (Nat.le_of_ble_eq_true rfl) ?_
    refine k_body_30 (by omega) hz hm9 hsk (dp := (dp + 1)) (by omega) (by omega) (fun h2 hm2 => ?_)
    exact a_iret (pc := 138) dX5_run_138 rfl (zf hz) (k9 _ (show SU G h0 _ a (rns s (hS a.2.2.1 a.2.2.2 2 x).2) from hm2))
  · have e9 : (rn s 30) = (va_up s.1 s.2 30, s.2 + 1) := by unfold rn; rw [if_pos c_82]
    refine a_aloadn_0 (pc := 85) dX5_run_85 ?_
    refine kg_15 hm rfl dX5_run_86 ?_
    refine a_aloadn_0 (pc := 89) dX5_run_89 ?_
    refine kg_29 (x := s.2) hm rfl dX5_run_90 rfl ?_
    refine a_iload_6 (pc := 93) dX5_run_93 ?_
    refine ks_trace (j := s.2) (x := 30) hm dX5_run_95 (by omega) (fun h1 hm1 => ?_)
    refine a_aloadn_0 (pc := 96) dX5_run_96 ?_
    refine a_dup (pc := 97) dX5_run_97 rfl ?_
    refine kg_29 (x := ((va_up s.1 s.2 30, s.2)).2) hm1 rfl dX5_run_98 rfl ?_
    refine a_iconst (pc := 101) (v := nI 1) dX5_run_101 (by decide) ?_
    refine n_iadd dX5_run_102 ?_
    refine kp_29 (x := ((va_up s.1 s.2 30, s.2)).2 + 1) hm1 rfl dX5_run_103 (fun h2 hm2 => ?_)
    have hm9 : SU G h0 h2 a (rn s 30) := by rw [e9]; exact hm2
    have er : (rn s 30).2 = s.2 + 1 := rfl
    refine a_iload_5 (pc := 106) dX5_run_106 ?_
    refine n_if_ne (tgt := 125) dX5_run_108 (by decide) (by decide) (fun c_108 => ?_) (fun c_108 => by omega)
    refine a_aloadn_0 (pc := 125) dX5_run_125 ?_
    refine a_iload_6 (pc := 126) dX5_run_126 ?_
    refine a_iload_5 (pc := 128) dX5_run_128 ?_
    refine a_iloadn_3 (pc := 130) dX5_run_130 ?_
    refine a_iload_4 (pc := 131) dX5_run_131 ?_
    refine a_iconst (pc := 133) (v := nI 1) dX5_run_133 (by decide) ?_
    refine n_iadd dX5_run_134 ?_
    refine cv_X5_55 (pc := 135) rfl dX5_run_135 hm9.ob (Nat.le_of_ble_eq_true rfl) ?_
    refine k_body_30 (by omega) hz hm9 hsk (dp := (dp + 1)) (by omega) (by omega) (fun h3 hm3 => ?_)
    exact a_iret (pc := 138) dX5_run_138 rfl (zf hz) (k9 _ (show SU G h0 _ a (rns s (hS a.2.2.1 a.2.2.2 2 x).2) from hm3))
set_option maxRecDepth 100000 in
set_option maxHeartbeats 4000000 in
theorem k_body_41 {G : Cx} {d : Nat} {h h0 : List va_E} {a : Su} {s : Rn} {Q : Option Value → List va_E → Prop} (hd : 9 ≤ d) (hz : gz G = false) (hm : SU G h0 h a s) (hsk : a.2.2.2 < 8) {x : Int32} {dp : Nat} (hdp : dp ≤ 37) (hr : s.2 < 984) (k9 : ∀ h1, SU G h0 h1 a (rns s (ud41 a x).2) → Q (some (.int (ud41 a x).1)) h1) : AM G yX5_runUnder cX5_runUnder 6 (some .int) d 0 0 [.ref (gB G + 62), .int (nI (41)), .int (nI (3)), .int (x), .int (nI (dp))] h Q := by
  obtain ⟨d, rfl, he⟩ := dpos hd
  refine AM.of [some (.ref (gB G + 62)), some (.int (nI (41))), some (.int (nI (3))), some (.int (x)), some (.int (nI (dp))), none] pnX5 (Nat.le_of_ble_eq_true rfl) (by simp [lsub, lvI, Value.category]) ?_
  refine a_gets (pc := 0) (i := 3) (by decide) dX5_runUnder_0 rfl w_897 ?_
  refine a_iloadn_2 (pc := 3) dX5_runUnder_3 ?_
  refine a_sil (pc := 4) 3 (t := 3) (by decide) dX5_runUnder_4 rfl (by decide) ?_
  refine a_topi (nI 2) (by decide) ?_
  refine a_istore_5 (pc := 5) dX5_runUnder_5 (by decide) (by first | rfl | trivial) ?_
  refine a_iloadn_1 (pc := 7) dX5_runUnder_7 ?_
  refine a_lookup (pc := 8) (off := 122) (tgt := 130) dX5_runUnder_8 (by decide) (by decide) (by decide) ?_
  refine a_aloadn_0 (pc := 130) dX5_runUnder_130 ?_
  refine a_iload_5 (pc := 131) dX5_runUnder_131 ?_
  refine a_iconst (pc := 133) (v := nI 1) dX5_runUnder_133 (by decide) ?_
  refine a_iloadn_3 (pc := 134) dX5_runUnder_134 ?_
  refine a_iconst (pc := 135) (v := nI 1) dX5_runUnder_135 (by decide) ?_
  refine a_iadd (pc := 136) dX5_runUnder_136 ?_
  refine a_iload_4 (pc := 137) dX5_runUnder_137 ?_
  refine cv_X5_44 (pc := 139) rfl dX5_runUnder_139 hm.ob (Nat.le_of_ble_eq_true rfl) ?_
  refine k_run1_2 (by omega) hz hm hsk (dp := dp) (by omega) (by omega) (fun h1 hm1 => ?_)
  have hl1 := hS_len a.2.2.1 a.2.2.2 2 (((x) + nI (1)))
  have hr1 := rns_len (hS a.2.2.1 a.2.2.2 2 (((x) + nI (1)))).2 s
  exact a_iret (pc := 142) dX5_runUnder_142 rfl (zf hz) (k9 _ (by rw [show rns s (ud41 a x).2 = (rns s (hS a.2.2.1 a.2.2.2 2 (((x) + nI (1)))).2) from (by first | rfl | exact rns_app _ _ _)]; exact hm1))
set_option maxRecDepth 100000 in
set_option maxHeartbeats 4000000 in
theorem k_body_80 {G : Cx} {d : Nat} {h h0 : List va_E} {a : Su} {s : Rn} {Q : Option Value → List va_E → Prop} (hd : 7 ≤ d) (hz : gz G = false) (hm : SU G h0 h a s) (hsk : a.2.2.2 < 8) {x : Int32} {dp : Nat} (hdp : dp ≤ 38) (hr : s.2 < 970) (k9 : ∀ h1, SU G h0 h1 a (rns s (ud80 a x).2) → Q (some (.int (ud80 a x).1)) h1) : AM G yX5_runUnder cX5_runUnder 6 (some .int) d 0 0 [.ref (gB G + 62), .int (nI (80)), .int (nI (7)), .int (x), .int (nI (dp))] h Q := by
  obtain ⟨d, rfl, he⟩ := dpos hd
  refine AM.of [some (.ref (gB G + 62)), some (.int (nI (80))), some (.int (nI (7))), some (.int (x)), some (.int (nI (dp))), none] pnX5 (Nat.le_of_ble_eq_true rfl) (by simp [lsub, lvI, Value.category]) ?_
  refine a_gets (pc := 0) (i := 3) (by decide) dX5_runUnder_0 rfl w_897 ?_
  refine a_iloadn_2 (pc := 3) dX5_runUnder_3 ?_
  refine a_sil (pc := 4) 7 (t := 3) (by decide) dX5_runUnder_4 rfl (by decide) ?_
  refine a_topi (nI 4) (by decide) ?_
  refine a_istore_5 (pc := 5) dX5_runUnder_5 (by decide) (by first | rfl | trivial) ?_
  refine a_iloadn_1 (pc := 7) dX5_runUnder_7 ?_
  refine a_lookup (pc := 8) (off := 185) (tgt := 193) dX5_runUnder_8 (by decide) (by decide) (by decide) ?_
  refine a_aloadn_0 (pc := 193) dX5_runUnder_193 ?_
  refine a_iload_5 (pc := 194) dX5_runUnder_194 ?_
  refine a_iconst (pc := 196) (v := nI 1) dX5_runUnder_196 (by decide) ?_
  refine a_iloadn_3 (pc := 197) dX5_runUnder_197 ?_
  refine a_iload_4 (pc := 198) dX5_runUnder_198 ?_
  refine cv_X5_44 (pc := 200) rfl dX5_runUnder_200 hm.ob (Nat.le_of_ble_eq_true rfl) ?_
  refine k_run1_4 (by omega) hz hm hsk (dp := dp) (by omega) (by omega) (fun h1 hm1 => ?_)
  have hl1 := hS_len a.2.2.1 a.2.2.2 4 ((x))
  have hr1 := rns_len (hS a.2.2.1 a.2.2.2 4 ((x))).2 s
  refine a_aloadn_0 (pc := 203) dX5_runUnder_203 ?_
  refine a_aloadn_0 (pc := 204) dX5_runUnder_204 ?_
  refine kg_41 (x := a.2.2.2) hm1 rfl dX5_runUnder_205 rfl ?_
  refine a_iconst (pc := 208) (v := nI 2) dX5_runUnder_208 (by decide) ?_
  refine a_iconst (pc := 209) (v := nI 2) dX5_runUnder_209 (by decide) ?_
  refine a_iload_4 (pc := 210) dX5_runUnder_210 ?_
  refine cv_X5_44 (pc := 212) rfl dX5_runUnder_212 hm1.ob (Nat.le_of_ble_eq_true rfl) ?_
  refine k_run2 (by omega) hz hm1 hsk (k := a.2.2.2) hsk (dp := dp) (by omega) (by omega) (fun h2 hm2 => ?_)
  have hl2 := lS_len a.2.2.1 a.2.2.2 a.2.2.2 (nI (2))
  have hr2 := rns_len (lS a.2.2.1 a.2.2.2 a.2.2.2 (nI (2))).2 ((rns s (hS a.2.2.1 a.2.2.2 4 ((x))).2))
  refine a_iadd (pc := 215) dX5_runUnder_215 ?_
  exact a_iret (pc := 216) dX5_runUnder_216 rfl (zf hz) (k9 _ (by rw [show rns s (ud80 a x).2 = (rns ((rns s (hS a.2.2.1 a.2.2.2 4 ((x))).2)) (lS a.2.2.1 a.2.2.2 a.2.2.2 (nI (2))).2) from (by first | rfl | exact rns_app _ _ _)]; exact hm2))
set_option maxRecDepth 100000 in
set_option maxHeartbeats 4000000 in
theorem k_run1_3 {G : Cx} {d : Nat} {h h0 : List va_E} {a : Su} {s : Rn} {Q : Option Value → List va_E → Prop} (hd : 10 ≤ d) (hz : gz G = false) (hm : SU G h0 h a s) (hsk : a.2.2.2 < 8) {x : Int32} {dp : Nat} (hdp : dp ≤ 36) (hr : s.2 < 965) (k9 : ∀ h1, SU G h0 h1 a (rns s (hS a.2.2.1 a.2.2.2 3 x).2) → Q (some (.int (hS a.2.2.1 a.2.2.2 3 x).1)) h1) : AM G yX5_run cX5_run 7 (some .int) d 0 0 [.ref (gB G + 62), .int (nI (3)), .int (nI (1)), .int (x), .int (nI (dp))] h Q := by
  obtain ⟨d, rfl, he⟩ := dpos hd
  refine AM.of [some (.ref (gB G + 62)), some (.int (nI (3))), some (.int (nI (1))), some (.int (x)), some (.int (nI (dp))), none, none] pnX5 (Nat.le_of_ble_eq_true rfl) (by simp [lsub, lvI, Value.category]) ?_
  refine a_iload_4 (pc := 0) dX5_run_0 ?_
  refine a_bipush (pc := 2) (v := nI 40) dX5_run_2 (by decide) ?_
  refine n_icmp_gt (tgt := 17) dX5_run_4 (by decide) (by omega) (by decide) (fun c_4 => by omega) (fun c_4 => ?_)
  refine a_iloadn_1 (pc := 7) dX5_run_7 ?_
  refine a_iconst (pc := 8) (v := nI 0) dX5_run_8 (by decide) ?_
  refine a_bipush (pc := 9) (v := nI 7) dX5_run_9 (by decide) ?_
  refine cs_X5_22 (pc := 11) rfl dX5_run_11 (Nat.le_of_ble_eq_true rfl) ?_
  refine x_within (by omega) hz ?_
  refine a_topi (bI true) (by decide) ?_
  refine b_if_ne (pc := 14) (tgt := 19) dX5_run_14 (by decide) (fun c_14 => ?_) (fun c_14 => by cases c_14)
  refine a_iloadn_1 (pc := 19) dX5_run_19 ?_
  refine a_istore_5 (pc := 20) dX5_run_20 (by decide) (by first | rfl | trivial) ?_
  refine a_iconst (pc := 22) (v := nI 0) dX5_run_22 (by decide) ?_
  refine a_istore_6 (pc := 23) dX5_run_23 (by decide) (by first | rfl | trivial) ?_
  refine a_iload_6 (pc := 25) dX5_run_25 ?_
  refine a_bipush (pc := 27) (v := nI 8) dX5_run_27 (by decide) ?_
  refine n_icmp_ge (tgt := 64) dX5_run_29 (by decide) (by decide) (by decide) (fun c_29 => by omega) (fun c_29 => ?_)
  refine a_iload_5 (pc := 32) dX5_run_32 ?_
  refine n_if_le (tgt := 64) dX5_run_34 (by decide) (by decide) (fun c_34 => by omega) (fun c_34 => ?_)
  refine a_gets (pc := 37) (i := 4) (by decide) dX5_run_37 rfl w_895 ?_
  refine a_iload_5 (pc := 40) dX5_run_40 ?_
  refine a_iconst (pc := 42) (v := nI 4) dX5_run_42 (by decide) ?_
  refine n_imul dX5_run_43 ?_
  refine a_iloadn_2 (pc := 44) dX5_run_44 ?_
  refine n_iadd dX5_run_45 ?_
  refine a_sil (pc := 46) 13 (t := 4) (by decide) dX5_run_46 rfl (by decide) ?_
  refine a_topi (nI 41) (by decide) ?_
  refine n_if_ne (tgt := 64) dX5_run_47 (by decide) (by decide) (fun c_47 => ?_) (fun c_47 => by omega)
  refine a_gets (pc := 64) (i := 4) (by decide) dX5_run_64 rfl w_895 ?_
  refine a_iload_5 (pc := 67) dX5_run_67 ?_
  refine a_iconst (pc := 69) (v := nI 4) dX5_run_69 (by decide) ?_
  refine n_imul dX5_run_70 ?_
  refine a_iloadn_2 (pc := 71) dX5_run_71 ?_
  refine n_iadd dX5_run_72 ?_
  refine a_sil (pc := 73) 13 (t := 4) (by decide) dX5_run_73 rfl (by decide) ?_
  refine a_topi (nI 41) (by decide) ?_
  refine a_istore_6 (pc := 74) dX5_run_74 (by decide) (by first | rfl | trivial) ?_
  refine a_aloadn_0 (pc := 76) dX5_run_76 ?_
  refine kg_29 (x := s.2) hm rfl dX5_run_77 rfl ?_
  refine a_bipush (pc := 80) (v := nI 24) dX5_run_80 (by decide) ?_
  refine n_icmp_ge (tgt := 96) dX5_run_82 (by decide) (by omega) (by decide) (fun c_82 => ?_) (fun c_82 => ?_)
  · have e9 : (rn s 41) = (s.1, s.2 + 1) := by unfold rn; rw [if_neg (by omega)]
    refine a_aloadn_0 (pc := 96) dX5_run_96 ?_
    refine a_dup (pc := 97) dX5_run_97 rfl ?_
    refine kg_29 (x := s.2) hm rfl dX5_run_98 rfl ?_
    refine a_iconst (pc := 101) (v := nI 1) dX5_run_101 (by decide) ?_
    refine n_iadd dX5_run_102 ?_
    refine kp_29 (x := s.2 + 1) hm rfl dX5_run_103 (fun h1 hm1 => ?_)
    have hm9 : SU G h0 h1 a (rn s 41) := by rw [e9]; exact hm1
    have er : (rn s 41).2 = s.2 + 1 := rfl
    refine a_iload_5 (pc := 106) dX5_run_106 ?_
    refine n_if_ne (tgt := 125) dX5_run_108 (by decide) (by decide) (fun c_108 => ?_) (fun c_108 => by omega)
    refine a_aloadn_0 (pc := 125) dX5_run_125 ?_
    refine a_iload_6 (pc := 126) dX5_run_126 ?_
    refine a_iload_5 (pc := 128) dX5_run_128 ?_
    refine a_iloadn_3 (pc := 130) dX5_run_130 ?_
    refine a_iload_4 (pc := 131) dX5_run_131 ?_
    refine a_iconst (pc := 133) (v := nI 1) dX5_run_133 (by decide) ?_
    refine n_iadd dX5_run_134 ?_
    refine cv_X5_55 (pc := 135) rfl dX5_run_135 hm9.ob (Nat.le_of_ble_eq_true rfl) ?_
    refine k_body_41 (by omega) hz hm9 hsk (dp := (dp + 1)) (by omega) (by omega) (fun h2 hm2 => ?_)
    exact a_iret (pc := 138) dX5_run_138 rfl (zf hz) (k9 _ (show SU G h0 _ a (rns s (hS a.2.2.1 a.2.2.2 3 x).2) from hm2))
  · have e9 : (rn s 41) = (va_up s.1 s.2 41, s.2 + 1) := by unfold rn; rw [if_pos c_82]
    refine a_aloadn_0 (pc := 85) dX5_run_85 ?_
    refine kg_15 hm rfl dX5_run_86 ?_
    refine a_aloadn_0 (pc := 89) dX5_run_89 ?_
    refine kg_29 (x := s.2) hm rfl dX5_run_90 rfl ?_
    refine a_iload_6 (pc := 93) dX5_run_93 ?_
    refine ks_trace (j := s.2) (x := 41) hm dX5_run_95 (by omega) (fun h1 hm1 => ?_)
    refine a_aloadn_0 (pc := 96) dX5_run_96 ?_
    refine a_dup (pc := 97) dX5_run_97 rfl ?_
    refine kg_29 (x := ((va_up s.1 s.2 41, s.2)).2) hm1 rfl dX5_run_98 rfl ?_
    refine a_iconst (pc := 101) (v := nI 1) dX5_run_101 (by decide) ?_
    refine n_iadd dX5_run_102 ?_
    refine kp_29 (x := ((va_up s.1 s.2 41, s.2)).2 + 1) hm1 rfl dX5_run_103 (fun h2 hm2 => ?_)
    have hm9 : SU G h0 h2 a (rn s 41) := by rw [e9]; exact hm2
    have er : (rn s 41).2 = s.2 + 1 := rfl
    refine a_iload_5 (pc := 106) dX5_run_106 ?_
    refine n_if_ne (tgt := 125) dX5_run_108 (by decide) (by decide) (fun c_108 => ?_) (fun c_108 => by omega)
    refine a_aloadn_0 (pc := 125) dX5_run_125 ?_
    refine a_iload_6 (pc := 126) dX5_run_126 ?_
    refine a_iload_5 (pc := 128) dX5_run_128 ?_
    refine a_iloadn_3 (pc := 130) dX5_run_130 ?_
    refine a_iload_4 (pc := 131) dX5_run_131 ?_
    refine a_iconst (pc := 133) (v := nI 1) dX5_run_133 (by decide) ?_
    refine n_iadd dX5_run_134 ?_
    refine cv_X5_55 (pc := 135) rfl dX5_run_135 hm9.ob (Nat.le_of_ble_eq_true rfl) ?_
    refine k_body_41 (by omega) hz hm9 hsk (dp := (dp + 1)) (by omega) (by omega) (fun h3 hm3 => ?_)
    exact a_iret (pc := 138) dX5_run_138 rfl (zf hz) (k9 _ (show SU G h0 _ a (rns s (hS a.2.2.1 a.2.2.2 3 x).2) from hm3))
set_option maxRecDepth 100000 in
set_option maxHeartbeats 4000000 in
theorem k_run1_5 {G : Cx} {d : Nat} {h h0 : List va_E} {a : Su} {s : Rn} {Q : Option Value → List va_E → Prop} (hd : 10 ≤ d) (hz : gz G = false) (hm : SU G h0 h a s) (hsk : a.2.2.2 < 8) {x : Int32} {dp : Nat} (hdp : dp ≤ 36) (hr : s.2 < 965) (k9 : ∀ h1, SU G h0 h1 a (rns s (hS a.2.2.1 a.2.2.2 5 x).2) → Q (some (.int (hS a.2.2.1 a.2.2.2 5 x).1)) h1) : AM G yX5_run cX5_run 7 (some .int) d 0 0 [.ref (gB G + 62), .int (nI (5)), .int (nI (1)), .int (x), .int (nI (dp))] h Q := by
  obtain ⟨d, rfl, he⟩ := dpos hd
  refine AM.of [some (.ref (gB G + 62)), some (.int (nI (5))), some (.int (nI (1))), some (.int (x)), some (.int (nI (dp))), none, none] pnX5 (Nat.le_of_ble_eq_true rfl) (by simp [lsub, lvI, Value.category]) ?_
  refine a_iload_4 (pc := 0) dX5_run_0 ?_
  refine a_bipush (pc := 2) (v := nI 40) dX5_run_2 (by decide) ?_
  refine n_icmp_gt (tgt := 17) dX5_run_4 (by decide) (by omega) (by decide) (fun c_4 => by omega) (fun c_4 => ?_)
  refine a_iloadn_1 (pc := 7) dX5_run_7 ?_
  refine a_iconst (pc := 8) (v := nI 0) dX5_run_8 (by decide) ?_
  refine a_bipush (pc := 9) (v := nI 7) dX5_run_9 (by decide) ?_
  refine cs_X5_22 (pc := 11) rfl dX5_run_11 (Nat.le_of_ble_eq_true rfl) ?_
  refine x_within (by omega) hz ?_
  refine a_topi (bI true) (by decide) ?_
  refine b_if_ne (pc := 14) (tgt := 19) dX5_run_14 (by decide) (fun c_14 => ?_) (fun c_14 => by cases c_14)
  refine a_iloadn_1 (pc := 19) dX5_run_19 ?_
  refine a_istore_5 (pc := 20) dX5_run_20 (by decide) (by first | rfl | trivial) ?_
  refine a_iconst (pc := 22) (v := nI 0) dX5_run_22 (by decide) ?_
  refine a_istore_6 (pc := 23) dX5_run_23 (by decide) (by first | rfl | trivial) ?_
  refine a_iload_6 (pc := 25) dX5_run_25 ?_
  refine a_bipush (pc := 27) (v := nI 8) dX5_run_27 (by decide) ?_
  refine n_icmp_ge (tgt := 64) dX5_run_29 (by decide) (by decide) (by decide) (fun c_29 => by omega) (fun c_29 => ?_)
  refine a_iload_5 (pc := 32) dX5_run_32 ?_
  refine n_if_le (tgt := 64) dX5_run_34 (by decide) (by decide) (fun c_34 => by omega) (fun c_34 => ?_)
  refine a_gets (pc := 37) (i := 4) (by decide) dX5_run_37 rfl w_895 ?_
  refine a_iload_5 (pc := 40) dX5_run_40 ?_
  refine a_iconst (pc := 42) (v := nI 4) dX5_run_42 (by decide) ?_
  refine n_imul dX5_run_43 ?_
  refine a_iloadn_2 (pc := 44) dX5_run_44 ?_
  refine n_iadd dX5_run_45 ?_
  refine a_sil (pc := 46) 21 (t := 4) (by decide) dX5_run_46 rfl (by decide) ?_
  refine a_topi (nI 0) (by decide) ?_
  refine n_if_ne (tgt := 64) dX5_run_47 (by decide) (by decide) (fun c_47 => by omega) (fun c_47 => ?_)
  refine a_gets (pc := 50) (i := 3) (by decide) dX5_run_50 rfl w_897 ?_
  refine a_iload_5 (pc := 53) dX5_run_53 ?_
  refine a_sil (pc := 55) 5 (t := 3) (by decide) dX5_run_55 rfl (by decide) ?_
  refine a_topi (nI 3) (by decide) ?_
  refine a_istore_5 (pc := 56) dX5_run_56 (by decide) (by first | rfl | trivial) ?_
  refine a_iinc_6 (pc := 58) (v := nI (1)) dX5_run_58 (nI_add _ _) (by decide) (by first | rfl | trivial) ?_
  refine a_goto (pc := 61) (tgt := 25) dX5_run_61 (by decide) ?_
  refine a_iload_6 (pc := 25) dX5_run_25 ?_
  refine a_bipush (pc := 27) (v := nI 8) dX5_run_27 (by decide) ?_
  refine n_icmp_ge (tgt := 64) dX5_run_29 (by decide) (by decide) (by decide) (fun c_29 => by omega) (fun c_29 => ?_)
  refine a_iload_5 (pc := 32) dX5_run_32 ?_
  refine n_if_le (tgt := 64) dX5_run_34 (by decide) (by decide) (fun c_34 => by omega) (fun c_34 => ?_)
  refine a_gets (pc := 37) (i := 4) (by decide) dX5_run_37 rfl w_895 ?_
  refine a_iload_5 (pc := 40) dX5_run_40 ?_
  refine a_iconst (pc := 42) (v := nI 4) dX5_run_42 (by decide) ?_
  refine n_imul dX5_run_43 ?_
  refine a_iloadn_2 (pc := 44) dX5_run_44 ?_
  refine n_iadd dX5_run_45 ?_
  refine a_sil (pc := 46) 13 (t := 4) (by decide) dX5_run_46 rfl (by decide) ?_
  refine a_topi (nI 41) (by decide) ?_
  refine n_if_ne (tgt := 64) dX5_run_47 (by decide) (by decide) (fun c_47 => ?_) (fun c_47 => by omega)
  refine a_gets (pc := 64) (i := 4) (by decide) dX5_run_64 rfl w_895 ?_
  refine a_iload_5 (pc := 67) dX5_run_67 ?_
  refine a_iconst (pc := 69) (v := nI 4) dX5_run_69 (by decide) ?_
  refine n_imul dX5_run_70 ?_
  refine a_iloadn_2 (pc := 71) dX5_run_71 ?_
  refine n_iadd dX5_run_72 ?_
  refine a_sil (pc := 73) 13 (t := 4) (by decide) dX5_run_73 rfl (by decide) ?_
  refine a_topi (nI 41) (by decide) ?_
  refine a_istore_6 (pc := 74) dX5_run_74 (by decide) (by first | rfl | trivial) ?_
  refine a_aloadn_0 (pc := 76) dX5_run_76 ?_
  refine kg_29 (x := s.2) hm rfl dX5_run_77 rfl ?_
  refine a_bipush (pc := 80) (v := nI 24) dX5_run_80 (by decide) ?_
  refine n_icmp_ge (tgt := 96) dX5_run_82 (by decide) (by omega) (by decide) (fun c_82 => ?_) (fun c_82 => ?_)
  · have e9 : (rn s 41) = (s.1, s.2 + 1) := by unfold rn; rw [if_neg (by omega)]
    refine a_aloadn_0 (pc := 96) dX5_run_96 ?_
    refine a_dup (pc := 97) dX5_run_97 rfl ?_
    refine kg_29 (x := s.2) hm rfl dX5_run_98 rfl ?_
    refine a_iconst (pc := 101) (v := nI 1) dX5_run_101 (by decide) ?_
    refine n_iadd dX5_run_102 ?_
    refine kp_29 (x := s.2 + 1) hm rfl dX5_run_103 (fun h1 hm1 => ?_)
    have hm9 : SU G h0 h1 a (rn s 41) := by rw [e9]; exact hm1
    have er : (rn s 41).2 = s.2 + 1 := rfl
    refine a_iload_5 (pc := 106) dX5_run_106 ?_
    refine n_if_ne (tgt := 125) dX5_run_108 (by decide) (by decide) (fun c_108 => ?_) (fun c_108 => by omega)
    refine a_aloadn_0 (pc := 125) dX5_run_125 ?_
    refine a_iload_6 (pc := 126) dX5_run_126 ?_
    refine a_iload_5 (pc := 128) dX5_run_128 ?_
    refine a_iloadn_3 (pc := 130) dX5_run_130 ?_
    refine a_iload_4 (pc := 131) dX5_run_131 ?_
    refine a_iconst (pc := 133) (v := nI 1) dX5_run_133 (by decide) ?_
    refine n_iadd dX5_run_134 ?_
    refine cv_X5_55 (pc := 135) rfl dX5_run_135 hm9.ob (Nat.le_of_ble_eq_true rfl) ?_
    refine k_body_41 (by omega) hz hm9 hsk (dp := (dp + 1)) (by omega) (by omega) (fun h2 hm2 => ?_)
    exact a_iret (pc := 138) dX5_run_138 rfl (zf hz) (k9 _ (show SU G h0 _ a (rns s (hS a.2.2.1 a.2.2.2 5 x).2) from hm2))
  · have e9 : (rn s 41) = (va_up s.1 s.2 41, s.2 + 1) := by unfold rn; rw [if_pos c_82]
    refine a_aloadn_0 (pc := 85) dX5_run_85 ?_
    refine kg_15 hm rfl dX5_run_86 ?_
    refine a_aloadn_0 (pc := 89) dX5_run_89 ?_
    refine kg_29 (x := s.2) hm rfl dX5_run_90 rfl ?_
    refine a_iload_6 (pc := 93) dX5_run_93 ?_
    refine ks_trace (j := s.2) (x := 41) hm dX5_run_95 (by omega) (fun h1 hm1 => ?_)
    refine a_aloadn_0 (pc := 96) dX5_run_96 ?_
    refine a_dup (pc := 97) dX5_run_97 rfl ?_
    refine kg_29 (x := ((va_up s.1 s.2 41, s.2)).2) hm1 rfl dX5_run_98 rfl ?_
    refine a_iconst (pc := 101) (v := nI 1) dX5_run_101 (by decide) ?_
    refine n_iadd dX5_run_102 ?_
    refine kp_29 (x := ((va_up s.1 s.2 41, s.2)).2 + 1) hm1 rfl dX5_run_103 (fun h2 hm2 => ?_)
    have hm9 : SU G h0 h2 a (rn s 41) := by rw [e9]; exact hm2
    have er : (rn s 41).2 = s.2 + 1 := rfl
    refine a_iload_5 (pc := 106) dX5_run_106 ?_
    refine n_if_ne (tgt := 125) dX5_run_108 (by decide) (by decide) (fun c_108 => ?_) (fun c_108 => by omega)
    refine a_aloadn_0 (pc := 125) dX5_run_125 ?_
    refine a_iload_6 (pc := 126) dX5_run_126 ?_
    refine a_iload_5 (pc := 128) dX5_run_128 ?_
    refine a_iloadn_3 (pc := 130) dX5_run_130 ?_
    refine a_iload_4 (pc := 131) dX5_run_131 ?_
    refine a_iconst (pc := 133) (v := nI 1) dX5_run_133 (by decide) ?_
    refine n_iadd dX5_run_134 ?_
    refine cv_X5_55 (pc := 135) rfl dX5_run_135 hm9.ob (Nat.le_of_ble_eq_true rfl) ?_
    refine k_body_41 (by omega) hz hm9 hsk (dp := (dp + 1)) (by omega) (by omega) (fun h3 hm3 => ?_)
    exact a_iret (pc := 138) dX5_run_138 rfl (zf hz) (k9 _ (show SU G h0 _ a (rns s (hS a.2.2.1 a.2.2.2 5 x).2) from hm3))
set_option maxRecDepth 100000 in
set_option maxHeartbeats 4000000 in
theorem k_run1_7 {G : Cx} {d : Nat} {h h0 : List va_E} {a : Su} {s : Rn} {Q : Option Value → List va_E → Prop} (hd : 10 ≤ d) (hz : gz G = false) (hm : SU G h0 h a s) (hsk : a.2.2.2 < 8) {x : Int32} {dp : Nat} (hdp : dp ≤ 36) (hr : s.2 < 965) (k9 : ∀ h1, SU G h0 h1 a (rns s (hS a.2.2.1 a.2.2.2 7 x).2) → Q (some (.int (hS a.2.2.1 a.2.2.2 7 x).1)) h1) : AM G yX5_run cX5_run 7 (some .int) d 0 0 [.ref (gB G + 62), .int (nI (7)), .int (nI (1)), .int (x), .int (nI (dp))] h Q := by
  obtain ⟨d, rfl, he⟩ := dpos hd
  refine AM.of [some (.ref (gB G + 62)), some (.int (nI (7))), some (.int (nI (1))), some (.int (x)), some (.int (nI (dp))), none, none] pnX5 (Nat.le_of_ble_eq_true rfl) (by simp [lsub, lvI, Value.category]) ?_
  refine a_iload_4 (pc := 0) dX5_run_0 ?_
  refine a_bipush (pc := 2) (v := nI 40) dX5_run_2 (by decide) ?_
  refine n_icmp_gt (tgt := 17) dX5_run_4 (by decide) (by omega) (by decide) (fun c_4 => by omega) (fun c_4 => ?_)
  refine a_iloadn_1 (pc := 7) dX5_run_7 ?_
  refine a_iconst (pc := 8) (v := nI 0) dX5_run_8 (by decide) ?_
  refine a_bipush (pc := 9) (v := nI 7) dX5_run_9 (by decide) ?_
  refine cs_X5_22 (pc := 11) rfl dX5_run_11 (Nat.le_of_ble_eq_true rfl) ?_
  refine x_within (by omega) hz ?_
  refine a_topi (bI true) (by decide) ?_
  refine b_if_ne (pc := 14) (tgt := 19) dX5_run_14 (by decide) (fun c_14 => ?_) (fun c_14 => by cases c_14)
  refine a_iloadn_1 (pc := 19) dX5_run_19 ?_
  refine a_istore_5 (pc := 20) dX5_run_20 (by decide) (by first | rfl | trivial) ?_
  refine a_iconst (pc := 22) (v := nI 0) dX5_run_22 (by decide) ?_
  refine a_istore_6 (pc := 23) dX5_run_23 (by decide) (by first | rfl | trivial) ?_
  refine a_iload_6 (pc := 25) dX5_run_25 ?_
  refine a_bipush (pc := 27) (v := nI 8) dX5_run_27 (by decide) ?_
  refine n_icmp_ge (tgt := 64) dX5_run_29 (by decide) (by decide) (by decide) (fun c_29 => by omega) (fun c_29 => ?_)
  refine a_iload_5 (pc := 32) dX5_run_32 ?_
  refine n_if_le (tgt := 64) dX5_run_34 (by decide) (by decide) (fun c_34 => by omega) (fun c_34 => ?_)
  refine a_gets (pc := 37) (i := 4) (by decide) dX5_run_37 rfl w_895 ?_
  refine a_iload_5 (pc := 40) dX5_run_40 ?_
  refine a_iconst (pc := 42) (v := nI 4) dX5_run_42 (by decide) ?_
  refine n_imul dX5_run_43 ?_
  refine a_iloadn_2 (pc := 44) dX5_run_44 ?_
  refine n_iadd dX5_run_45 ?_
  refine a_sil (pc := 46) 29 (t := 4) (by decide) dX5_run_46 rfl (by decide) ?_
  refine a_topi (nI 80) (by decide) ?_
  refine n_if_ne (tgt := 64) dX5_run_47 (by decide) (by decide) (fun c_47 => ?_) (fun c_47 => by omega)
  refine a_gets (pc := 64) (i := 4) (by decide) dX5_run_64 rfl w_895 ?_
  refine a_iload_5 (pc := 67) dX5_run_67 ?_
  refine a_iconst (pc := 69) (v := nI 4) dX5_run_69 (by decide) ?_
  refine n_imul dX5_run_70 ?_
  refine a_iloadn_2 (pc := 71) dX5_run_71 ?_
  refine n_iadd dX5_run_72 ?_
  refine a_sil (pc := 73) 29 (t := 4) (by decide) dX5_run_73 rfl (by decide) ?_
  refine a_topi (nI 80) (by decide) ?_
  refine a_istore_6 (pc := 74) dX5_run_74 (by decide) (by first | rfl | trivial) ?_
  refine a_aloadn_0 (pc := 76) dX5_run_76 ?_
  refine kg_29 (x := s.2) hm rfl dX5_run_77 rfl ?_
  refine a_bipush (pc := 80) (v := nI 24) dX5_run_80 (by decide) ?_
  refine n_icmp_ge (tgt := 96) dX5_run_82 (by decide) (by omega) (by decide) (fun c_82 => ?_) (fun c_82 => ?_)
  · have e9 : (rn s 80) = (s.1, s.2 + 1) := by unfold rn; rw [if_neg (by omega)]
    refine a_aloadn_0 (pc := 96) dX5_run_96 ?_
    refine a_dup (pc := 97) dX5_run_97 rfl ?_
    refine kg_29 (x := s.2) hm rfl dX5_run_98 rfl ?_
    refine a_iconst (pc := 101) (v := nI 1) dX5_run_101 (by decide) ?_
    refine n_iadd dX5_run_102 ?_
    refine kp_29 (x := s.2 + 1) hm rfl dX5_run_103 (fun h1 hm1 => ?_)
    have hm9 : SU G h0 h1 a (rn s 80) := by rw [e9]; exact hm1
    have er : (rn s 80).2 = s.2 + 1 := rfl
    refine a_iload_5 (pc := 106) dX5_run_106 ?_
    refine n_if_ne (tgt := 125) dX5_run_108 (by decide) (by decide) (fun c_108 => ?_) (fun c_108 => by omega)
    refine a_aloadn_0 (pc := 125) dX5_run_125 ?_
    refine a_iload_6 (pc := 126) dX5_run_126 ?_
    refine a_iload_5 (pc := 128) dX5_run_128 ?_
    refine a_iloadn_3 (pc := 130) dX5_run_130 ?_
    refine a_iload_4 (pc := 131) dX5_run_131 ?_
    refine a_iconst (pc := 133) (v := nI 1) dX5_run_133 (by decide) ?_
    refine n_iadd dX5_run_134 ?_
    refine cv_X5_55 (pc := 135) rfl dX5_run_135 hm9.ob (Nat.le_of_ble_eq_true rfl) ?_
    refine k_body_80 (by omega) hz hm9 hsk (dp := (dp + 1)) (by omega) (by omega) (fun h2 hm2 => ?_)
    exact a_iret (pc := 138) dX5_run_138 rfl (zf hz) (k9 _ (show SU G h0 _ a (rns s (hS a.2.2.1 a.2.2.2 7 x).2) from hm2))
  · have e9 : (rn s 80) = (va_up s.1 s.2 80, s.2 + 1) := by unfold rn; rw [if_pos c_82]
    refine a_aloadn_0 (pc := 85) dX5_run_85 ?_
    refine kg_15 hm rfl dX5_run_86 ?_
    refine a_aloadn_0 (pc := 89) dX5_run_89 ?_
    refine kg_29 (x := s.2) hm rfl dX5_run_90 rfl ?_
    refine a_iload_6 (pc := 93) dX5_run_93 ?_
    refine ks_trace (j := s.2) (x := 80) hm dX5_run_95 (by omega) (fun h1 hm1 => ?_)
    refine a_aloadn_0 (pc := 96) dX5_run_96 ?_
    refine a_dup (pc := 97) dX5_run_97 rfl ?_
    refine kg_29 (x := ((va_up s.1 s.2 80, s.2)).2) hm1 rfl dX5_run_98 rfl ?_
    refine a_iconst (pc := 101) (v := nI 1) dX5_run_101 (by decide) ?_
    refine n_iadd dX5_run_102 ?_
    refine kp_29 (x := ((va_up s.1 s.2 80, s.2)).2 + 1) hm1 rfl dX5_run_103 (fun h2 hm2 => ?_)
    have hm9 : SU G h0 h2 a (rn s 80) := by rw [e9]; exact hm2
    have er : (rn s 80).2 = s.2 + 1 := rfl
    refine a_iload_5 (pc := 106) dX5_run_106 ?_
    refine n_if_ne (tgt := 125) dX5_run_108 (by decide) (by decide) (fun c_108 => ?_) (fun c_108 => by omega)
    refine a_aloadn_0 (pc := 125) dX5_run_125 ?_
    refine a_iload_6 (pc := 126) dX5_run_126 ?_
    refine a_iload_5 (pc := 128) dX5_run_128 ?_
    refine a_iloadn_3 (pc := 130) dX5_run_130 ?_
    refine a_iload_4 (pc := 131) dX5_run_131 ?_
    refine a_iconst (pc := 133) (v := nI 1) dX5_run_133 (by decide) ?_
    refine n_iadd dX5_run_134 ?_
    refine cv_X5_55 (pc := 135) rfl dX5_run_135 hm9.ob (Nat.le_of_ble_eq_true rfl) ?_
    refine k_body_80 (by omega) hz hm9 hsk (dp := (dp + 1)) (by omega) (by omega) (fun h3 hm3 => ?_)
    exact a_iret (pc := 138) dX5_run_138 rfl (zf hz) (k9 _ (show SU G h0 _ a (rns s (hS a.2.2.1 a.2.2.2 7 x).2) from hm3))
theorem k_run1 {G : Cx} {d : Nat} {h h0 : List va_E} {a : Su} {s : Rn} {Q : Option Value → List va_E → Prop} (hd : 10 ≤ d) (hz : gz G = false) (hm : SU G h0 h a s) (hsk : a.2.2.2 < 8) {k : Nat} (hk : k < 8) {x : Int32} {dp : Nat} (hdp : dp ≤ 36) (hr : s.2 < 955) (k9 : ∀ h1, SU G h0 h1 a (rns s (hS a.2.2.1 a.2.2.2 k x).2) → Q (some (.int (hS a.2.2.1 a.2.2.2 k x).1)) h1) : AM G yX5_run cX5_run 7 (some .int) d 0 0 [.ref (gB G + 62), .int (nI k), .int (nI 1), .int x, .int (nI dp)] h Q := by
  rcases k8 hk with rfl | rfl | rfl | rfl | rfl | rfl | rfl | rfl
  · exact k_run1_0 (by omega) hz hm hsk (by omega) (by omega) k9
  · exact k_run1_1 (by omega) hz hm hsk (by omega) (by omega) k9
  · exact k_run1_2 (by omega) hz hm hsk (by omega) (by omega) k9
  · exact k_run1_3 (by omega) hz hm hsk (by omega) (by omega) k9
  · exact k_run1_4 (by omega) hz hm hsk (by omega) (by omega) k9
  · exact k_run1_5 (by omega) hz hm hsk (by omega) (by omega) k9
  · exact k_run1_6 (by omega) hz hm hsk (by omega) (by omega) k9
  · exact k_run1_7 (by omega) hz hm hsk (by omega) (by omega) k9
set_option maxRecDepth 100000 in
set_option maxHeartbeats 4000000 in
theorem k_body_2 {G : Cx} {d : Nat} {h h0 : List va_E} {a : Su} {s : Rn} {Q : Option Value → List va_E → Prop} (hd : 11 ≤ d) (hz : gz G = false) (hm : SU G h0 h a s) (hsk : a.2.2.2 < 8) {x : Int32} {dp : Nat} (hdp : dp ≤ 36) (hr : s.2 < 950) (k9 : ∀ h1, SU G h0 h1 a (rns s (tp2 a x).2) → Q (some (.int (tp2 a x).1)) h1) : AM G yX5_runTop cX5_runTop 4 (some .int) d 0 0 [.ref (gB G + 62), .int (nI (2)), .int (x), .int (nI (dp))] h Q := by
  obtain ⟨d, rfl, he⟩ := dpos hd
  refine AM.of [some (.ref (gB G + 62)), some (.int (nI (2))), some (.int (x)), some (.int (nI (dp)))] pnX5 (Nat.le_of_ble_eq_true rfl) (by simp [lsub, lvI, Value.category]) ?_
  refine a_iloadn_1 (pc := 0) dX5_runTop_0 ?_
  refine a_lookup (pc := 1) (off := 50) (tgt := 51) dX5_runTop_1 (by decide) (by decide) (by decide) ?_
  refine a_aloadn_0 (pc := 51) dX5_runTop_51 ?_
  refine a_aloadn_0 (pc := 52) dX5_runTop_52 ?_
  refine kg_41 (x := a.2.2.2) hm rfl dX5_runTop_53 rfl ?_
  refine a_iconst (pc := 56) (v := nI 1) dX5_runTop_56 (by decide) ?_
  refine a_iloadn_2 (pc := 57) dX5_runTop_57 ?_
  refine a_iloadn_3 (pc := 58) dX5_runTop_58 ?_
  refine cv_X5_44 (pc := 59) rfl dX5_runTop_59 hm.ob (Nat.le_of_ble_eq_true rfl) ?_
  refine k_run1 (by omega) hz hm hsk (k := a.2.2.2) hsk (dp := dp) (by omega) (by omega) (fun h1 hm1 => ?_)
  have hl1 := hS_len a.2.2.1 a.2.2.2 a.2.2.2 ((x))
  have hr1 := rns_len (hS a.2.2.1 a.2.2.2 a.2.2.2 ((x))).2 s
  refine a_aloadn_0 (pc := 62) dX5_runTop_62 ?_
  refine a_aloadn_0 (pc := 63) dX5_runTop_63 ?_
  refine kg_41 (x := a.2.2.2) hm1 rfl dX5_runTop_64 rfl ?_
  refine a_iconst (pc := 67) (v := nI 2) dX5_runTop_67 (by decide) ?_
  refine a_iconst (pc := 68) (v := nI 1) dX5_runTop_68 (by decide) ?_
  refine a_iloadn_3 (pc := 69) dX5_runTop_69 ?_
  refine cv_X5_44 (pc := 70) rfl dX5_runTop_70 hm1.ob (Nat.le_of_ble_eq_true rfl) ?_
  refine k_run2 (by omega) hz hm1 hsk (k := a.2.2.2) hsk (dp := dp) (by omega) (by omega) (fun h2 hm2 => ?_)
  have hl2 := lS_len a.2.2.1 a.2.2.2 a.2.2.2 (nI (1))
  have hr2 := rns_len (lS a.2.2.1 a.2.2.2 a.2.2.2 (nI (1))).2 ((rns s (hS a.2.2.1 a.2.2.2 a.2.2.2 ((x))).2))
  refine a_isub (pc := 73) dX5_runTop_73 ?_
  exact a_iret (pc := 74) dX5_runTop_74 rfl (zf hz) (k9 _ (by rw [show rns s (tp2 a x).2 = (rns ((rns s (hS a.2.2.1 a.2.2.2 a.2.2.2 ((x))).2)) (lS a.2.2.1 a.2.2.2 a.2.2.2 (nI (1))).2) from (by first | rfl | exact rns_app _ _ _)]; exact hm2))
set_option maxRecDepth 100000 in
set_option maxHeartbeats 4000000 in
theorem k_run3_0 {G : Cx} {d : Nat} {h h0 : List va_E} {a : Su} {s : Rn} {Q : Option Value → List va_E → Prop} (hd : 12 ≤ d) (hz : gz G = false) (hm : SU G h0 h a s) (hsk : a.2.2.2 < 8) {x : Int32} {dp : Nat} (hdp : dp ≤ 35) (hr : s.2 < 945) (k9 : ∀ h1, SU G h0 h1 a (rns s (tlS a.2.2.1 a.2.2.2 0 x).2) → Q (some (.int (tlS a.2.2.1 a.2.2.2 0 x).1)) h1) : AM G yX5_run cX5_run 7 (some .int) d 0 0 [.ref (gB G + 62), .int (nI (0)), .int (nI (3)), .int (x), .int (nI (dp))] h Q := by
  obtain ⟨d, rfl, he⟩ := dpos hd
  refine AM.of [some (.ref (gB G + 62)), some (.int (nI (0))), some (.int (nI (3))), some (.int (x)), some (.int (nI (dp))), none, none] pnX5 (Nat.le_of_ble_eq_true rfl) (by simp [lsub, lvI, Value.category]) ?_
  refine a_iload_4 (pc := 0) dX5_run_0 ?_
  refine a_bipush (pc := 2) (v := nI 40) dX5_run_2 (by decide) ?_
  refine n_icmp_gt (tgt := 17) dX5_run_4 (by decide) (by omega) (by decide) (fun c_4 => by omega) (fun c_4 => ?_)
  refine a_iloadn_1 (pc := 7) dX5_run_7 ?_
  refine a_iconst (pc := 8) (v := nI 0) dX5_run_8 (by decide) ?_
  refine a_bipush (pc := 9) (v := nI 7) dX5_run_9 (by decide) ?_
  refine cs_X5_22 (pc := 11) rfl dX5_run_11 (Nat.le_of_ble_eq_true rfl) ?_
  refine x_within (by omega) hz ?_
  refine a_topi (bI true) (by decide) ?_
  refine b_if_ne (pc := 14) (tgt := 19) dX5_run_14 (by decide) (fun c_14 => ?_) (fun c_14 => by cases c_14)
  refine a_iloadn_1 (pc := 19) dX5_run_19 ?_
  refine a_istore_5 (pc := 20) dX5_run_20 (by decide) (by first | rfl | trivial) ?_
  refine a_iconst (pc := 22) (v := nI 0) dX5_run_22 (by decide) ?_
  refine a_istore_6 (pc := 23) dX5_run_23 (by decide) (by first | rfl | trivial) ?_
  refine a_iload_6 (pc := 25) dX5_run_25 ?_
  refine a_bipush (pc := 27) (v := nI 8) dX5_run_27 (by decide) ?_
  refine n_icmp_ge (tgt := 64) dX5_run_29 (by decide) (by decide) (by decide) (fun c_29 => by omega) (fun c_29 => ?_)
  refine a_iload_5 (pc := 32) dX5_run_32 ?_
  refine n_if_le (tgt := 64) dX5_run_34 (by decide) (by decide) (fun c_34 => ?_) (fun c_34 => by omega)
  refine a_gets (pc := 64) (i := 4) (by decide) dX5_run_64 rfl w_895 ?_
  refine a_iload_5 (pc := 67) dX5_run_67 ?_
  refine a_iconst (pc := 69) (v := nI 4) dX5_run_69 (by decide) ?_
  refine n_imul dX5_run_70 ?_
  refine a_iloadn_2 (pc := 71) dX5_run_71 ?_
  refine n_iadd dX5_run_72 ?_
  refine a_sil (pc := 73) 3 (t := 4) (by decide) dX5_run_73 rfl (by decide) ?_
  refine a_topi (nI 2) (by decide) ?_
  refine a_istore_6 (pc := 74) dX5_run_74 (by decide) (by first | rfl | trivial) ?_
  refine a_aloadn_0 (pc := 76) dX5_run_76 ?_
  refine kg_29 (x := s.2) hm rfl dX5_run_77 rfl ?_
  refine a_bipush (pc := 80) (v := nI 24) dX5_run_80 (by decide) ?_
  refine n_icmp_ge (tgt := 96) dX5_run_82 (by decide) (by omega) (by decide) (fun c_82 => ?_) (fun c_82 => ?_)
  · have e9 : (rn s 2) = (s.1, s.2 + 1) := by unfold rn; rw [if_neg (by omega)]
    refine a_aloadn_0 (pc := 96) dX5_run_96 ?_
    refine a_dup (pc := 97) dX5_run_97 rfl ?_
    refine kg_29 (x := s.2) hm rfl dX5_run_98 rfl ?_
    refine a_iconst (pc := 101) (v := nI 1) dX5_run_101 (by decide) ?_
    refine n_iadd dX5_run_102 ?_
    refine kp_29 (x := s.2 + 1) hm rfl dX5_run_103 (fun h1 hm1 => ?_)
    have hm9 : SU G h0 h1 a (rn s 2) := by rw [e9]; exact hm1
    have er : (rn s 2).2 = s.2 + 1 := rfl
    refine a_iload_5 (pc := 106) dX5_run_106 ?_
    refine n_if_ne (tgt := 125) dX5_run_108 (by decide) (by decide) (fun c_108 => by omega) (fun c_108 => ?_)
    refine a_aloadn_0 (pc := 111) dX5_run_111 ?_
    refine a_iload_6 (pc := 112) dX5_run_112 ?_
    refine a_iloadn_3 (pc := 114) dX5_run_114 ?_
    refine a_iload_4 (pc := 115) dX5_run_115 ?_
    refine a_iconst (pc := 117) (v := nI 1) dX5_run_117 (by decide) ?_
    refine n_iadd dX5_run_118 ?_
    refine cv_X5_51 (pc := 119) rfl dX5_run_119 hm9.ob (Nat.le_of_ble_eq_true rfl) ?_
    refine k_body_2 (by omega) hz hm9 hsk (dp := (dp + 1)) (by omega) (by omega) (fun h2 hm2 => ?_)
    refine a_goto (pc := 122) (tgt := 138) dX5_run_122 (by decide) ?_
    exact a_iret (pc := 138) dX5_run_138 rfl (zf hz) (k9 _ (show SU G h0 _ a (rns s (tlS a.2.2.1 a.2.2.2 0 x).2) from hm2))
  · have e9 : (rn s 2) = (va_up s.1 s.2 2, s.2 + 1) := by unfold rn; rw [if_pos c_82]
    refine a_aloadn_0 (pc := 85) dX5_run_85 ?_
    refine kg_15 hm rfl dX5_run_86 ?_
    refine a_aloadn_0 (pc := 89) dX5_run_89 ?_
    refine kg_29 (x := s.2) hm rfl dX5_run_90 rfl ?_
    refine a_iload_6 (pc := 93) dX5_run_93 ?_
    refine ks_trace (j := s.2) (x := 2) hm dX5_run_95 (by omega) (fun h1 hm1 => ?_)
    refine a_aloadn_0 (pc := 96) dX5_run_96 ?_
    refine a_dup (pc := 97) dX5_run_97 rfl ?_
    refine kg_29 (x := ((va_up s.1 s.2 2, s.2)).2) hm1 rfl dX5_run_98 rfl ?_
    refine a_iconst (pc := 101) (v := nI 1) dX5_run_101 (by decide) ?_
    refine n_iadd dX5_run_102 ?_
    refine kp_29 (x := ((va_up s.1 s.2 2, s.2)).2 + 1) hm1 rfl dX5_run_103 (fun h2 hm2 => ?_)
    have hm9 : SU G h0 h2 a (rn s 2) := by rw [e9]; exact hm2
    have er : (rn s 2).2 = s.2 + 1 := rfl
    refine a_iload_5 (pc := 106) dX5_run_106 ?_
    refine n_if_ne (tgt := 125) dX5_run_108 (by decide) (by decide) (fun c_108 => by omega) (fun c_108 => ?_)
    refine a_aloadn_0 (pc := 111) dX5_run_111 ?_
    refine a_iload_6 (pc := 112) dX5_run_112 ?_
    refine a_iloadn_3 (pc := 114) dX5_run_114 ?_
    refine a_iload_4 (pc := 115) dX5_run_115 ?_
    refine a_iconst (pc := 117) (v := nI 1) dX5_run_117 (by decide) ?_
    refine n_iadd dX5_run_118 ?_
    refine cv_X5_51 (pc := 119) rfl dX5_run_119 hm9.ob (Nat.le_of_ble_eq_true rfl) ?_
    refine k_body_2 (by omega) hz hm9 hsk (dp := (dp + 1)) (by omega) (by omega) (fun h3 hm3 => ?_)
    refine a_goto (pc := 122) (tgt := 138) dX5_run_122 (by decide) ?_
    exact a_iret (pc := 138) dX5_run_138 rfl (zf hz) (k9 _ (show SU G h0 _ a (rns s (tlS a.2.2.1 a.2.2.2 0 x).2) from hm3))
set_option maxRecDepth 100000 in
set_option maxHeartbeats 4000000 in
theorem k_run3_1 {G : Cx} {d : Nat} {h h0 : List va_E} {a : Su} {s : Rn} {Q : Option Value → List va_E → Prop} (hd : 12 ≤ d) (hz : gz G = false) (hm : SU G h0 h a s) (hsk : a.2.2.2 < 8) {x : Int32} {dp : Nat} (hdp : dp ≤ 35) (hr : s.2 < 945) (k9 : ∀ h1, SU G h0 h1 a (rns s (tlS a.2.2.1 a.2.2.2 1 x).2) → Q (some (.int (tlS a.2.2.1 a.2.2.2 1 x).1)) h1) : AM G yX5_run cX5_run 7 (some .int) d 0 0 [.ref (gB G + 62), .int (nI (1)), .int (nI (3)), .int (x), .int (nI (dp))] h Q := by
  obtain ⟨d, rfl, he⟩ := dpos hd
  refine AM.of [some (.ref (gB G + 62)), some (.int (nI (1))), some (.int (nI (3))), some (.int (x)), some (.int (nI (dp))), none, none] pnX5 (Nat.le_of_ble_eq_true rfl) (by simp [lsub, lvI, Value.category]) ?_
  refine a_iload_4 (pc := 0) dX5_run_0 ?_
  refine a_bipush (pc := 2) (v := nI 40) dX5_run_2 (by decide) ?_
  refine n_icmp_gt (tgt := 17) dX5_run_4 (by decide) (by omega) (by decide) (fun c_4 => by omega) (fun c_4 => ?_)
  refine a_iloadn_1 (pc := 7) dX5_run_7 ?_
  refine a_iconst (pc := 8) (v := nI 0) dX5_run_8 (by decide) ?_
  refine a_bipush (pc := 9) (v := nI 7) dX5_run_9 (by decide) ?_
  refine cs_X5_22 (pc := 11) rfl dX5_run_11 (Nat.le_of_ble_eq_true rfl) ?_
  refine x_within (by omega) hz ?_
  refine a_topi (bI true) (by decide) ?_
  refine b_if_ne (pc := 14) (tgt := 19) dX5_run_14 (by decide) (fun c_14 => ?_) (fun c_14 => by cases c_14)
  refine a_iloadn_1 (pc := 19) dX5_run_19 ?_
  refine a_istore_5 (pc := 20) dX5_run_20 (by decide) (by first | rfl | trivial) ?_
  refine a_iconst (pc := 22) (v := nI 0) dX5_run_22 (by decide) ?_
  refine a_istore_6 (pc := 23) dX5_run_23 (by decide) (by first | rfl | trivial) ?_
  refine a_iload_6 (pc := 25) dX5_run_25 ?_
  refine a_bipush (pc := 27) (v := nI 8) dX5_run_27 (by decide) ?_
  refine n_icmp_ge (tgt := 64) dX5_run_29 (by decide) (by decide) (by decide) (fun c_29 => by omega) (fun c_29 => ?_)
  refine a_iload_5 (pc := 32) dX5_run_32 ?_
  refine n_if_le (tgt := 64) dX5_run_34 (by decide) (by decide) (fun c_34 => by omega) (fun c_34 => ?_)
  refine a_gets (pc := 37) (i := 4) (by decide) dX5_run_37 rfl w_895 ?_
  refine a_iload_5 (pc := 40) dX5_run_40 ?_
  refine a_iconst (pc := 42) (v := nI 4) dX5_run_42 (by decide) ?_
  refine n_imul dX5_run_43 ?_
  refine a_iloadn_2 (pc := 44) dX5_run_44 ?_
  refine n_iadd dX5_run_45 ?_
  refine a_sil (pc := 46) 7 (t := 4) (by decide) dX5_run_46 rfl (by decide) ?_
  refine a_topi (nI 0) (by decide) ?_
  refine n_if_ne (tgt := 64) dX5_run_47 (by decide) (by decide) (fun c_47 => by omega) (fun c_47 => ?_)
  refine a_gets (pc := 50) (i := 3) (by decide) dX5_run_50 rfl w_897 ?_
  refine a_iload_5 (pc := 53) dX5_run_53 ?_
  refine a_sil (pc := 55) 1 (t := 3) (by decide) dX5_run_55 rfl (by decide) ?_
  refine a_topi (nI 0) (by decide) ?_
  refine a_istore_5 (pc := 56) dX5_run_56 (by decide) (by first | rfl | trivial) ?_
  refine a_iinc_6 (pc := 58) (v := nI (1)) dX5_run_58 (nI_add _ _) (by decide) (by first | rfl | trivial) ?_
  refine a_goto (pc := 61) (tgt := 25) dX5_run_61 (by decide) ?_
  refine a_iload_6 (pc := 25) dX5_run_25 ?_
  refine a_bipush (pc := 27) (v := nI 8) dX5_run_27 (by decide) ?_
  refine n_icmp_ge (tgt := 64) dX5_run_29 (by decide) (by decide) (by decide) (fun c_29 => by omega) (fun c_29 => ?_)
  refine a_iload_5 (pc := 32) dX5_run_32 ?_
  refine n_if_le (tgt := 64) dX5_run_34 (by decide) (by decide) (fun c_34 => ?_) (fun c_34 => by omega)
  refine a_gets (pc := 64) (i := 4) (by decide) dX5_run_64 rfl w_895 ?_
  refine a_iload_5 (pc := 67) dX5_run_67 ?_
  refine a_iconst (pc := 69) (v := nI 4) dX5_run_69 (by decide) ?_
  refine n_imul dX5_run_70 ?_
  refine a_iloadn_2 (pc := 71) dX5_run_71 ?_
  refine n_iadd dX5_run_72 ?_
  refine a_sil (pc := 73) 3 (t := 4) (by decide) dX5_run_73 rfl (by decide) ?_
  refine a_topi (nI 2) (by decide) ?_
  refine a_istore_6 (pc := 74) dX5_run_74 (by decide) (by first | rfl | trivial) ?_
  refine a_aloadn_0 (pc := 76) dX5_run_76 ?_
  refine kg_29 (x := s.2) hm rfl dX5_run_77 rfl ?_
  refine a_bipush (pc := 80) (v := nI 24) dX5_run_80 (by decide) ?_
  refine n_icmp_ge (tgt := 96) dX5_run_82 (by decide) (by omega) (by decide) (fun c_82 => ?_) (fun c_82 => ?_)
  · have e9 : (rn s 2) = (s.1, s.2 + 1) := by unfold rn; rw [if_neg (by omega)]
    refine a_aloadn_0 (pc := 96) dX5_run_96 ?_
    refine a_dup (pc := 97) dX5_run_97 rfl ?_
    refine kg_29 (x := s.2) hm rfl dX5_run_98 rfl ?_
    refine a_iconst (pc := 101) (v := nI 1) dX5_run_101 (by decide) ?_
    refine n_iadd dX5_run_102 ?_
    refine kp_29 (x := s.2 + 1) hm rfl dX5_run_103 (fun h1 hm1 => ?_)
    have hm9 : SU G h0 h1 a (rn s 2) := by rw [e9]; exact hm1
    have er : (rn s 2).2 = s.2 + 1 := rfl
    refine a_iload_5 (pc := 106) dX5_run_106 ?_
    refine n_if_ne (tgt := 125) dX5_run_108 (by decide) (by decide) (fun c_108 => by omega) (fun c_108 => ?_)
    refine a_aloadn_0 (pc := 111) dX5_run_111 ?_
    refine a_iload_6 (pc := 112) dX5_run_112 ?_
    refine a_iloadn_3 (pc := 114) dX5_run_114 ?_
    refine a_iload_4 (pc := 115) dX5_run_115 ?_
    refine a_iconst (pc := 117) (v := nI 1) dX5_run_117 (by decide) ?_
    refine n_iadd dX5_run_118 ?_
    refine cv_X5_51 (pc := 119) rfl dX5_run_119 hm9.ob (Nat.le_of_ble_eq_true rfl) ?_
    refine k_body_2 (by omega) hz hm9 hsk (dp := (dp + 1)) (by omega) (by omega) (fun h2 hm2 => ?_)
    refine a_goto (pc := 122) (tgt := 138) dX5_run_122 (by decide) ?_
    exact a_iret (pc := 138) dX5_run_138 rfl (zf hz) (k9 _ (show SU G h0 _ a (rns s (tlS a.2.2.1 a.2.2.2 1 x).2) from hm2))
  · have e9 : (rn s 2) = (va_up s.1 s.2 2, s.2 + 1) := by unfold rn; rw [if_pos c_82]
    refine a_aloadn_0 (pc := 85) dX5_run_85 ?_
    refine kg_15 hm rfl dX5_run_86 ?_
    refine a_aloadn_0 (pc := 89) dX5_run_89 ?_
    refine kg_29 (x := s.2) hm rfl dX5_run_90 rfl ?_
    refine a_iload_6 (pc := 93) dX5_run_93 ?_
    refine ks_trace (j := s.2) (x := 2) hm dX5_run_95 (by omega) (fun h1 hm1 => ?_)
    refine a_aloadn_0 (pc := 96) dX5_run_96 ?_
    refine a_dup (pc := 97) dX5_run_97 rfl ?_
    refine kg_29 (x := ((va_up s.1 s.2 2, s.2)).2) hm1 rfl dX5_run_98 rfl ?_
    refine a_iconst (pc := 101) (v := nI 1) dX5_run_101 (by decide) ?_
    refine n_iadd dX5_run_102 ?_
    refine kp_29 (x := ((va_up s.1 s.2 2, s.2)).2 + 1) hm1 rfl dX5_run_103 (fun h2 hm2 => ?_)
    have hm9 : SU G h0 h2 a (rn s 2) := by rw [e9]; exact hm2
    have er : (rn s 2).2 = s.2 + 1 := rfl
    refine a_iload_5 (pc := 106) dX5_run_106 ?_
    refine n_if_ne (tgt := 125) dX5_run_108 (by decide) (by decide) (fun c_108 => by omega) (fun c_108 => ?_)
    refine a_aloadn_0 (pc := 111) dX5_run_111 ?_
    refine a_iload_6 (pc := 112) dX5_run_112 ?_
    refine a_iloadn_3 (pc := 114) dX5_run_114 ?_
    refine a_iload_4 (pc := 115) dX5_run_115 ?_
    refine a_iconst (pc := 117) (v := nI 1) dX5_run_117 (by decide) ?_
    refine n_iadd dX5_run_118 ?_
    refine cv_X5_51 (pc := 119) rfl dX5_run_119 hm9.ob (Nat.le_of_ble_eq_true rfl) ?_
    refine k_body_2 (by omega) hz hm9 hsk (dp := (dp + 1)) (by omega) (by omega) (fun h3 hm3 => ?_)
    refine a_goto (pc := 122) (tgt := 138) dX5_run_122 (by decide) ?_
    exact a_iret (pc := 138) dX5_run_138 rfl (zf hz) (k9 _ (show SU G h0 _ a (rns s (tlS a.2.2.1 a.2.2.2 1 x).2) from hm3))
set_option maxRecDepth 100000 in
set_option maxHeartbeats 4000000 in
theorem k_run3_2 {G : Cx} {d : Nat} {h h0 : List va_E} {a : Su} {s : Rn} {Q : Option Value → List va_E → Prop} (hd : 12 ≤ d) (hz : gz G = false) (hm : SU G h0 h a s) (hsk : a.2.2.2 < 8) {x : Int32} {dp : Nat} (hdp : dp ≤ 35) (hr : s.2 < 945) (k9 : ∀ h1, SU G h0 h1 a (rns s (tlS a.2.2.1 a.2.2.2 2 x).2) → Q (some (.int (tlS a.2.2.1 a.2.2.2 2 x).1)) h1) : AM G yX5_run cX5_run 7 (some .int) d 0 0 [.ref (gB G + 62), .int (nI (2)), .int (nI (3)), .int (x), .int (nI (dp))] h Q := by
  obtain ⟨d, rfl, he⟩ := dpos hd
  refine AM.of [some (.ref (gB G + 62)), some (.int (nI (2))), some (.int (nI (3))), some (.int (x)), some (.int (nI (dp))), none, none] pnX5 (Nat.le_of_ble_eq_true rfl) (by simp [lsub, lvI, Value.category]) ?_
  refine a_iload_4 (pc := 0) dX5_run_0 ?_
  refine a_bipush (pc := 2) (v := nI 40) dX5_run_2 (by decide) ?_
  refine n_icmp_gt (tgt := 17) dX5_run_4 (by decide) (by omega) (by decide) (fun c_4 => by omega) (fun c_4 => ?_)
  refine a_iloadn_1 (pc := 7) dX5_run_7 ?_
  refine a_iconst (pc := 8) (v := nI 0) dX5_run_8 (by decide) ?_
  refine a_bipush (pc := 9) (v := nI 7) dX5_run_9 (by decide) ?_
  refine cs_X5_22 (pc := 11) rfl dX5_run_11 (Nat.le_of_ble_eq_true rfl) ?_
  refine x_within (by omega) hz ?_
  refine a_topi (bI true) (by decide) ?_
  refine b_if_ne (pc := 14) (tgt := 19) dX5_run_14 (by decide) (fun c_14 => ?_) (fun c_14 => by cases c_14)
  refine a_iloadn_1 (pc := 19) dX5_run_19 ?_
  refine a_istore_5 (pc := 20) dX5_run_20 (by decide) (by first | rfl | trivial) ?_
  refine a_iconst (pc := 22) (v := nI 0) dX5_run_22 (by decide) ?_
  refine a_istore_6 (pc := 23) dX5_run_23 (by decide) (by first | rfl | trivial) ?_
  refine a_iload_6 (pc := 25) dX5_run_25 ?_
  refine a_bipush (pc := 27) (v := nI 8) dX5_run_27 (by decide) ?_
  refine n_icmp_ge (tgt := 64) dX5_run_29 (by decide) (by decide) (by decide) (fun c_29 => by omega) (fun c_29 => ?_)
  refine a_iload_5 (pc := 32) dX5_run_32 ?_
  refine n_if_le (tgt := 64) dX5_run_34 (by decide) (by decide) (fun c_34 => by omega) (fun c_34 => ?_)
  refine a_gets (pc := 37) (i := 4) (by decide) dX5_run_37 rfl w_895 ?_
  refine a_iload_5 (pc := 40) dX5_run_40 ?_
  refine a_iconst (pc := 42) (v := nI 4) dX5_run_42 (by decide) ?_
  refine n_imul dX5_run_43 ?_
  refine a_iloadn_2 (pc := 44) dX5_run_44 ?_
  refine n_iadd dX5_run_45 ?_
  refine a_sil (pc := 46) 11 (t := 4) (by decide) dX5_run_46 rfl (by decide) ?_
  refine a_topi (nI 0) (by decide) ?_
  refine n_if_ne (tgt := 64) dX5_run_47 (by decide) (by decide) (fun c_47 => by omega) (fun c_47 => ?_)
  refine a_gets (pc := 50) (i := 3) (by decide) dX5_run_50 rfl w_897 ?_
  refine a_iload_5 (pc := 53) dX5_run_53 ?_
  refine a_sil (pc := 55) 2 (t := 3) (by decide) dX5_run_55 rfl (by decide) ?_
  refine a_topi (nI 0) (by decide) ?_
  refine a_istore_5 (pc := 56) dX5_run_56 (by decide) (by first | rfl | trivial) ?_
  refine a_iinc_6 (pc := 58) (v := nI (1)) dX5_run_58 (nI_add _ _) (by decide) (by first | rfl | trivial) ?_
  refine a_goto (pc := 61) (tgt := 25) dX5_run_61 (by decide) ?_
  refine a_iload_6 (pc := 25) dX5_run_25 ?_
  refine a_bipush (pc := 27) (v := nI 8) dX5_run_27 (by decide) ?_
  refine n_icmp_ge (tgt := 64) dX5_run_29 (by decide) (by decide) (by decide) (fun c_29 => by omega) (fun c_29 => ?_)
  refine a_iload_5 (pc := 32) dX5_run_32 ?_
  refine n_if_le (tgt := 64) dX5_run_34 (by decide) (by decide) (fun c_34 => ?_) (fun c_34 => by omega)
  refine a_gets (pc := 64) (i := 4) (by decide) dX5_run_64 rfl w_895 ?_
  refine a_iload_5 (pc := 67) dX5_run_67 ?_
  refine a_iconst (pc := 69) (v := nI 4) dX5_run_69 (by decide) ?_
  refine n_imul dX5_run_70 ?_
  refine a_iloadn_2 (pc := 71) dX5_run_71 ?_
  refine n_iadd dX5_run_72 ?_
  refine a_sil (pc := 73) 3 (t := 4) (by decide) dX5_run_73 rfl (by decide) ?_
  refine a_topi (nI 2) (by decide) ?_
  refine a_istore_6 (pc := 74) dX5_run_74 (by decide) (by first | rfl | trivial) ?_
  refine a_aloadn_0 (pc := 76) dX5_run_76 ?_
  refine kg_29 (x := s.2) hm rfl dX5_run_77 rfl ?_
  refine a_bipush (pc := 80) (v := nI 24) dX5_run_80 (by decide) ?_
  refine n_icmp_ge (tgt := 96) dX5_run_82 (by decide) (by omega) (by decide) (fun c_82 => ?_) (fun c_82 => ?_)
  · have e9 : (rn s 2) = (s.1, s.2 + 1) := by unfold rn; rw [if_neg (by omega)]
    refine a_aloadn_0 (pc := 96) dX5_run_96 ?_
    refine a_dup (pc := 97) dX5_run_97 rfl ?_
    refine kg_29 (x := s.2) hm rfl dX5_run_98 rfl ?_
    refine a_iconst (pc := 101) (v := nI 1) dX5_run_101 (by decide) ?_
    refine n_iadd dX5_run_102 ?_
    refine kp_29 (x := s.2 + 1) hm rfl dX5_run_103 (fun h1 hm1 => ?_)
    have hm9 : SU G h0 h1 a (rn s 2) := by rw [e9]; exact hm1
    have er : (rn s 2).2 = s.2 + 1 := rfl
    refine a_iload_5 (pc := 106) dX5_run_106 ?_
    refine n_if_ne (tgt := 125) dX5_run_108 (by decide) (by decide) (fun c_108 => by omega) (fun c_108 => ?_)
    refine a_aloadn_0 (pc := 111) dX5_run_111 ?_
    refine a_iload_6 (pc := 112) dX5_run_112 ?_
    refine a_iloadn_3 (pc := 114) dX5_run_114 ?_
    refine a_iload_4 (pc := 115) dX5_run_115 ?_
    refine a_iconst (pc := 117) (v := nI 1) dX5_run_117 (by decide) ?_
    refine n_iadd dX5_run_118 ?_
    refine cv_X5_51 (pc := 119) rfl dX5_run_119 hm9.ob (Nat.le_of_ble_eq_true rfl) ?_
    refine k_body_2 (by omega) hz hm9 hsk (dp := (dp + 1)) (by omega) (by omega) (fun h2 hm2 => ?_)
    refine a_goto (pc := 122) (tgt := 138) dX5_run_122 (by decide) ?_
    exact a_iret (pc := 138) dX5_run_138 rfl (zf hz) (k9 _ (show SU G h0 _ a (rns s (tlS a.2.2.1 a.2.2.2 2 x).2) from hm2))
  · have e9 : (rn s 2) = (va_up s.1 s.2 2, s.2 + 1) := by unfold rn; rw [if_pos c_82]
    refine a_aloadn_0 (pc := 85) dX5_run_85 ?_
    refine kg_15 hm rfl dX5_run_86 ?_
    refine a_aloadn_0 (pc := 89) dX5_run_89 ?_
    refine kg_29 (x := s.2) hm rfl dX5_run_90 rfl ?_
    refine a_iload_6 (pc := 93) dX5_run_93 ?_
    refine ks_trace (j := s.2) (x := 2) hm dX5_run_95 (by omega) (fun h1 hm1 => ?_)
    refine a_aloadn_0 (pc := 96) dX5_run_96 ?_
    refine a_dup (pc := 97) dX5_run_97 rfl ?_
    refine kg_29 (x := ((va_up s.1 s.2 2, s.2)).2) hm1 rfl dX5_run_98 rfl ?_
    refine a_iconst (pc := 101) (v := nI 1) dX5_run_101 (by decide) ?_
    refine n_iadd dX5_run_102 ?_
    refine kp_29 (x := ((va_up s.1 s.2 2, s.2)).2 + 1) hm1 rfl dX5_run_103 (fun h2 hm2 => ?_)
    have hm9 : SU G h0 h2 a (rn s 2) := by rw [e9]; exact hm2
    have er : (rn s 2).2 = s.2 + 1 := rfl
    refine a_iload_5 (pc := 106) dX5_run_106 ?_
    refine n_if_ne (tgt := 125) dX5_run_108 (by decide) (by decide) (fun c_108 => by omega) (fun c_108 => ?_)
    refine a_aloadn_0 (pc := 111) dX5_run_111 ?_
    refine a_iload_6 (pc := 112) dX5_run_112 ?_
    refine a_iloadn_3 (pc := 114) dX5_run_114 ?_
    refine a_iload_4 (pc := 115) dX5_run_115 ?_
    refine a_iconst (pc := 117) (v := nI 1) dX5_run_117 (by decide) ?_
    refine n_iadd dX5_run_118 ?_
    refine cv_X5_51 (pc := 119) rfl dX5_run_119 hm9.ob (Nat.le_of_ble_eq_true rfl) ?_
    refine k_body_2 (by omega) hz hm9 hsk (dp := (dp + 1)) (by omega) (by omega) (fun h3 hm3 => ?_)
    refine a_goto (pc := 122) (tgt := 138) dX5_run_122 (by decide) ?_
    exact a_iret (pc := 138) dX5_run_138 rfl (zf hz) (k9 _ (show SU G h0 _ a (rns s (tlS a.2.2.1 a.2.2.2 2 x).2) from hm3))
set_option maxRecDepth 100000 in
set_option maxHeartbeats 4000000 in
theorem k_run3_3 {G : Cx} {d : Nat} {h h0 : List va_E} {a : Su} {s : Rn} {Q : Option Value → List va_E → Prop} (hd : 12 ≤ d) (hz : gz G = false) (hm : SU G h0 h a s) (hsk : a.2.2.2 < 8) {x : Int32} {dp : Nat} (hdp : dp ≤ 35) (hr : s.2 < 945) (k9 : ∀ h1, SU G h0 h1 a (rns s (tlS a.2.2.1 a.2.2.2 3 x).2) → Q (some (.int (tlS a.2.2.1 a.2.2.2 3 x).1)) h1) : AM G yX5_run cX5_run 7 (some .int) d 0 0 [.ref (gB G + 62), .int (nI (3)), .int (nI (3)), .int (x), .int (nI (dp))] h Q := by
  obtain ⟨d, rfl, he⟩ := dpos hd
  refine AM.of [some (.ref (gB G + 62)), some (.int (nI (3))), some (.int (nI (3))), some (.int (x)), some (.int (nI (dp))), none, none] pnX5 (Nat.le_of_ble_eq_true rfl) (by simp [lsub, lvI, Value.category]) ?_
  refine a_iload_4 (pc := 0) dX5_run_0 ?_
  refine a_bipush (pc := 2) (v := nI 40) dX5_run_2 (by decide) ?_
  refine n_icmp_gt (tgt := 17) dX5_run_4 (by decide) (by omega) (by decide) (fun c_4 => by omega) (fun c_4 => ?_)
  refine a_iloadn_1 (pc := 7) dX5_run_7 ?_
  refine a_iconst (pc := 8) (v := nI 0) dX5_run_8 (by decide) ?_
  refine a_bipush (pc := 9) (v := nI 7) dX5_run_9 (by decide) ?_
  refine cs_X5_22 (pc := 11) rfl dX5_run_11 (Nat.le_of_ble_eq_true rfl) ?_
  refine x_within (by omega) hz ?_
  refine a_topi (bI true) (by decide) ?_
  refine b_if_ne (pc := 14) (tgt := 19) dX5_run_14 (by decide) (fun c_14 => ?_) (fun c_14 => by cases c_14)
  refine a_iloadn_1 (pc := 19) dX5_run_19 ?_
  refine a_istore_5 (pc := 20) dX5_run_20 (by decide) (by first | rfl | trivial) ?_
  refine a_iconst (pc := 22) (v := nI 0) dX5_run_22 (by decide) ?_
  refine a_istore_6 (pc := 23) dX5_run_23 (by decide) (by first | rfl | trivial) ?_
  refine a_iload_6 (pc := 25) dX5_run_25 ?_
  refine a_bipush (pc := 27) (v := nI 8) dX5_run_27 (by decide) ?_
  refine n_icmp_ge (tgt := 64) dX5_run_29 (by decide) (by decide) (by decide) (fun c_29 => by omega) (fun c_29 => ?_)
  refine a_iload_5 (pc := 32) dX5_run_32 ?_
  refine n_if_le (tgt := 64) dX5_run_34 (by decide) (by decide) (fun c_34 => by omega) (fun c_34 => ?_)
  refine a_gets (pc := 37) (i := 4) (by decide) dX5_run_37 rfl w_895 ?_
  refine a_iload_5 (pc := 40) dX5_run_40 ?_
  refine a_iconst (pc := 42) (v := nI 4) dX5_run_42 (by decide) ?_
  refine n_imul dX5_run_43 ?_
  refine a_iloadn_2 (pc := 44) dX5_run_44 ?_
  refine n_iadd dX5_run_45 ?_
  refine a_sil (pc := 46) 15 (t := 4) (by decide) dX5_run_46 rfl (by decide) ?_
  refine a_topi (nI 0) (by decide) ?_
  refine n_if_ne (tgt := 64) dX5_run_47 (by decide) (by decide) (fun c_47 => by omega) (fun c_47 => ?_)
  refine a_gets (pc := 50) (i := 3) (by decide) dX5_run_50 rfl w_897 ?_
  refine a_iload_5 (pc := 53) dX5_run_53 ?_
  refine a_sil (pc := 55) 3 (t := 3) (by decide) dX5_run_55 rfl (by decide) ?_
  refine a_topi (nI 2) (by decide) ?_
  refine a_istore_5 (pc := 56) dX5_run_56 (by decide) (by first | rfl | trivial) ?_
  refine a_iinc_6 (pc := 58) (v := nI (1)) dX5_run_58 (nI_add _ _) (by decide) (by first | rfl | trivial) ?_
  refine a_goto (pc := 61) (tgt := 25) dX5_run_61 (by decide) ?_
  refine a_iload_6 (pc := 25) dX5_run_25 ?_
  refine a_bipush (pc := 27) (v := nI 8) dX5_run_27 (by decide) ?_
  refine n_icmp_ge (tgt := 64) dX5_run_29 (by decide) (by decide) (by decide) (fun c_29 => by omega) (fun c_29 => ?_)
  refine a_iload_5 (pc := 32) dX5_run_32 ?_
  refine n_if_le (tgt := 64) dX5_run_34 (by decide) (by decide) (fun c_34 => by omega) (fun c_34 => ?_)
  refine a_gets (pc := 37) (i := 4) (by decide) dX5_run_37 rfl w_895 ?_
  refine a_iload_5 (pc := 40) dX5_run_40 ?_
  refine a_iconst (pc := 42) (v := nI 4) dX5_run_42 (by decide) ?_
  refine n_imul dX5_run_43 ?_
  refine a_iloadn_2 (pc := 44) dX5_run_44 ?_
  refine n_iadd dX5_run_45 ?_
  refine a_sil (pc := 46) 11 (t := 4) (by decide) dX5_run_46 rfl (by decide) ?_
  refine a_topi (nI 0) (by decide) ?_
  refine n_if_ne (tgt := 64) dX5_run_47 (by decide) (by decide) (fun c_47 => by omega) (fun c_47 => ?_)
  refine a_gets (pc := 50) (i := 3) (by decide) dX5_run_50 rfl w_897 ?_
  refine a_iload_5 (pc := 53) dX5_run_53 ?_
  refine a_sil (pc := 55) 2 (t := 3) (by decide) dX5_run_55 rfl (by decide) ?_
  refine a_topi (nI 0) (by decide) ?_
  refine a_istore_5 (pc := 56) dX5_run_56 (by decide) (by first | rfl | trivial) ?_
  refine a_iinc_6 (pc := 58) (v := nI (2)) dX5_run_58 (nI_add _ _) (by decide) (by first | rfl | trivial) ?_
  refine a_goto (pc := 61) (tgt := 25) dX5_run_61 (by decide) ?_
  refine a_iload_6 (pc := 25) dX5_run_25 ?_
  refine a_bipush (pc := 27) (v := nI 8) dX5_run_27 (by decide) ?_
  refine n_icmp_ge (tgt := 64) dX5_run_29 (by decide) (by decide) (by decide) (fun c_29 => by omega) (fun c_29 => ?_)
  refine a_iload_5 (pc := 32) dX5_run_32 ?_
  refine n_if_le (tgt := 64) dX5_run_34 (by decide) (by decide) (fun c_34 => ?_) (fun c_34 => by omega)
  refine a_gets (pc := 64) (i := 4) (by decide) dX5_run_64 rfl w_895 ?_
  refine a_iload_5 (pc := 67) dX5_run_67 ?_
  refine a_iconst (pc := 69) (v := nI 4) dX5_run_69 (by decide) ?_
  refine n_imul dX5_run_70 ?_
  refine a_iloadn_2 (pc := 71) dX5_run_71 ?_
  refine n_iadd dX5_run_72 ?_
  refine a_sil (pc := 73) 3 (t := 4) (by decide) dX5_run_73 rfl (by decide) ?_
  refine a_topi (nI 2) (by decide) ?_
  refine a_istore_6 (pc := 74) dX5_run_74 (by decide) (by first | rfl | trivial) ?_
  refine a_aloadn_0 (pc := 76) dX5_run_76 ?_
  refine kg_29 (x := s.2) hm rfl dX5_run_77 rfl ?_
  refine a_bipush (pc := 80) (v := nI 24) dX5_run_80 (by decide) ?_
  refine n_icmp_ge (tgt := 96) dX5_run_82 (by decide) (by omega) (by decide) (fun c_82 => ?_) (fun c_82 => ?_)
  · have e9 : (rn s 2) = (s.1, s.2 + 1) := by unfold rn; rw [if_neg (by omega)]
    refine a_aloadn_0 (pc := 96) dX5_run_96 ?_
    refine a_dup (pc := 97) dX5_run_97 rfl ?_
    refine kg_29 (x := s.2) hm rfl dX5_run_98 rfl ?_
    refine a_iconst (pc := 101) (v := nI 1) dX5_run_101 (by decide) ?_
    refine n_iadd dX5_run_102 ?_
    refine kp_29 (x := s.2 + 1) hm rfl dX5_run_103 (fun h1 hm1 => ?_)
    have hm9 : SU G h0 h1 a (rn s 2) := by rw [e9]; exact hm1
    have er : (rn s 2).2 = s.2 + 1 := rfl
    refine a_iload_5 (pc := 106) dX5_run_106 ?_
    refine n_if_ne (tgt := 125) dX5_run_108 (by decide) (by decide) (fun c_108 => by omega) (fun c_108 => ?_)
    refine a_aloadn_0 (pc := 111) dX5_run_111 ?_
    refine a_iload_6 (pc := 112) dX5_run_112 ?_
    refine a_iloadn_3 (pc := 114) dX5_run_114 ?_
    refine a_iload_4 (pc := 115) dX5_run_115 ?_
    refine a_iconst (pc := 117) (v := nI 1) dX5_run_117 (by decide) ?_
    refine n_iadd dX5_run_118 ?_
    refine cv_X5_51 (pc := 119) rfl dX5_run_119 hm9.ob (Nat.le_of_ble_eq_true rfl) ?_
    refine k_body_2 (by omega) hz hm9 hsk (dp := (dp + 1)) (by omega) (by omega) (fun h2 hm2 => ?_)
    refine a_goto (pc := 122) (tgt := 138) dX5_run_122 (by decide) ?_
    exact a_iret (pc := 138) dX5_run_138 rfl (zf hz) (k9 _ (show SU G h0 _ a (rns s (tlS a.2.2.1 a.2.2.2 3 x).2) from hm2))
  · have e9 : (rn s 2) = (va_up s.1 s.2 2, s.2 + 1) := by unfold rn; rw [if_pos c_82]
    refine a_aloadn_0 (pc := 85) dX5_run_85 ?_
    refine kg_15 hm rfl dX5_run_86 ?_
    refine a_aloadn_0 (pc := 89) dX5_run_89 ?_
    refine kg_29 (x := s.2) hm rfl dX5_run_90 rfl ?_
    refine a_iload_6 (pc := 93) dX5_run_93 ?_
    refine ks_trace (j := s.2) (x := 2) hm dX5_run_95 (by omega) (fun h1 hm1 => ?_)
    refine a_aloadn_0 (pc := 96) dX5_run_96 ?_
    refine a_dup (pc := 97) dX5_run_97 rfl ?_
    refine kg_29 (x := ((va_up s.1 s.2 2, s.2)).2) hm1 rfl dX5_run_98 rfl ?_
    refine a_iconst (pc := 101) (v := nI 1) dX5_run_101 (by decide) ?_
    refine n_iadd dX5_run_102 ?_
    refine kp_29 (x := ((va_up s.1 s.2 2, s.2)).2 + 1) hm1 rfl dX5_run_103 (fun h2 hm2 => ?_)
    have hm9 : SU G h0 h2 a (rn s 2) := by rw [e9]; exact hm2
    have er : (rn s 2).2 = s.2 + 1 := rfl
    refine a_iload_5 (pc := 106) dX5_run_106 ?_
    refine n_if_ne (tgt := 125) dX5_run_108 (by decide) (by decide) (fun c_108 => by omega) (fun c_108 => ?_)
    refine a_aloadn_0 (pc := 111) dX5_run_111 ?_
    refine a_iload_6 (pc := 112) dX5_run_112 ?_
    refine a_iloadn_3 (pc := 114) dX5_run_114 ?_
    refine a_iload_4 (pc := 115) dX5_run_115 ?_
    refine a_iconst (pc := 117) (v := nI 1) dX5_run_117 (by decide) ?_
    refine n_iadd dX5_run_118 ?_
    refine cv_X5_51 (pc := 119) rfl dX5_run_119 hm9.ob (Nat.le_of_ble_eq_true rfl) ?_
    refine k_body_2 (by omega) hz hm9 hsk (dp := (dp + 1)) (by omega) (by omega) (fun h3 hm3 => ?_)
    refine a_goto (pc := 122) (tgt := 138) dX5_run_122 (by decide) ?_
    exact a_iret (pc := 138) dX5_run_138 rfl (zf hz) (k9 _ (show SU G h0 _ a (rns s (tlS a.2.2.1 a.2.2.2 3 x).2) from hm3))
set_option maxRecDepth 100000 in
set_option maxHeartbeats 4000000 in
theorem k_run3_4 {G : Cx} {d : Nat} {h h0 : List va_E} {a : Su} {s : Rn} {Q : Option Value → List va_E → Prop} (hd : 12 ≤ d) (hz : gz G = false) (hm : SU G h0 h a s) (hsk : a.2.2.2 < 8) {x : Int32} {dp : Nat} (hdp : dp ≤ 35) (hr : s.2 < 945) (k9 : ∀ h1, SU G h0 h1 a (rns s (tlS a.2.2.1 a.2.2.2 4 x).2) → Q (some (.int (tlS a.2.2.1 a.2.2.2 4 x).1)) h1) : AM G yX5_run cX5_run 7 (some .int) d 0 0 [.ref (gB G + 62), .int (nI (4)), .int (nI (3)), .int (x), .int (nI (dp))] h Q := by
  obtain ⟨d, rfl, he⟩ := dpos hd
  refine AM.of [some (.ref (gB G + 62)), some (.int (nI (4))), some (.int (nI (3))), some (.int (x)), some (.int (nI (dp))), none, none] pnX5 (Nat.le_of_ble_eq_true rfl) (by simp [lsub, lvI, Value.category]) ?_
  refine a_iload_4 (pc := 0) dX5_run_0 ?_
  refine a_bipush (pc := 2) (v := nI 40) dX5_run_2 (by decide) ?_
  refine n_icmp_gt (tgt := 17) dX5_run_4 (by decide) (by omega) (by decide) (fun c_4 => by omega) (fun c_4 => ?_)
  refine a_iloadn_1 (pc := 7) dX5_run_7 ?_
  refine a_iconst (pc := 8) (v := nI 0) dX5_run_8 (by decide) ?_
  refine a_bipush (pc := 9) (v := nI 7) dX5_run_9 (by decide) ?_
  refine cs_X5_22 (pc := 11) rfl dX5_run_11 (Nat.le_of_ble_eq_true rfl) ?_
  refine x_within (by omega) hz ?_
  refine a_topi (bI true) (by decide) ?_
  refine b_if_ne (pc := 14) (tgt := 19) dX5_run_14 (by decide) (fun c_14 => ?_) (fun c_14 => by cases c_14)
  refine a_iloadn_1 (pc := 19) dX5_run_19 ?_
  refine a_istore_5 (pc := 20) dX5_run_20 (by decide) (by first | rfl | trivial) ?_
  refine a_iconst (pc := 22) (v := nI 0) dX5_run_22 (by decide) ?_
  refine a_istore_6 (pc := 23) dX5_run_23 (by decide) (by first | rfl | trivial) ?_
  refine a_iload_6 (pc := 25) dX5_run_25 ?_
  refine a_bipush (pc := 27) (v := nI 8) dX5_run_27 (by decide) ?_
  refine n_icmp_ge (tgt := 64) dX5_run_29 (by decide) (by decide) (by decide) (fun c_29 => by omega) (fun c_29 => ?_)
  refine a_iload_5 (pc := 32) dX5_run_32 ?_
  refine n_if_le (tgt := 64) dX5_run_34 (by decide) (by decide) (fun c_34 => by omega) (fun c_34 => ?_)
  refine a_gets (pc := 37) (i := 4) (by decide) dX5_run_37 rfl w_895 ?_
  refine a_iload_5 (pc := 40) dX5_run_40 ?_
  refine a_iconst (pc := 42) (v := nI 4) dX5_run_42 (by decide) ?_
  refine n_imul dX5_run_43 ?_
  refine a_iloadn_2 (pc := 44) dX5_run_44 ?_
  refine n_iadd dX5_run_45 ?_
  refine a_sil (pc := 46) 19 (t := 4) (by decide) dX5_run_46 rfl (by decide) ?_
  refine a_topi (nI 0) (by decide) ?_
  refine n_if_ne (tgt := 64) dX5_run_47 (by decide) (by decide) (fun c_47 => by omega) (fun c_47 => ?_)
  refine a_gets (pc := 50) (i := 3) (by decide) dX5_run_50 rfl w_897 ?_
  refine a_iload_5 (pc := 53) dX5_run_53 ?_
  refine a_sil (pc := 55) 4 (t := 3) (by decide) dX5_run_55 rfl (by decide) ?_
  refine a_topi (nI 1) (by decide) ?_
  refine a_istore_5 (pc := 56) dX5_run_56 (by decide) (by first | rfl | trivial) ?_
  refine a_iinc_6 (pc := 58) (v := nI (1)) dX5_run_58 (nI_add _ _) (by decide) (by first | rfl | trivial) ?_
  refine a_goto (pc := 61) (tgt := 25) dX5_run_61 (by decide) ?_
  refine a_iload_6 (pc := 25) dX5_run_25 ?_
  refine a_bipush (pc := 27) (v := nI 8) dX5_run_27 (by decide) ?_
  refine n_icmp_ge (tgt := 64) dX5_run_29 (by decide) (by decide) (by decide) (fun c_29 => by omega) (fun c_29 => ?_)
  refine a_iload_5 (pc := 32) dX5_run_32 ?_
  refine n_if_le (tgt := 64) dX5_run_34 (by decide) (by decide) (fun c_34 => by omega) (fun c_34 => ?_)
  refine a_gets (pc := 37) (i := 4) (by decide) dX5_run_37 rfl w_895 ?_
  refine a_iload_5 (pc := 40) dX5_run_40 ?_
  refine a_iconst (pc := 42) (v := nI 4) dX5_run_42 (by decide) ?_
  refine n_imul dX5_run_43 ?_
  refine a_iloadn_2 (pc := 44) dX5_run_44 ?_
  refine n_iadd dX5_run_45 ?_
  refine a_sil (pc := 46) 7 (t := 4) (by decide) dX5_run_46 rfl (by decide) ?_
  refine a_topi (nI 0) (by decide) ?_
  refine n_if_ne (tgt := 64) dX5_run_47 (by decide) (by decide) (fun c_47 => by omega) (fun c_47 => ?_)
  refine a_gets (pc := 50) (i := 3) (by decide) dX5_run_50 rfl w_897 ?_
  refine a_iload_5 (pc := 53) dX5_run_53 ?_
  refine a_sil (pc := 55) 1 (t := 3) (by decide) dX5_run_55 rfl (by decide) ?_
  refine a_topi (nI 0) (by decide) ?_
  refine a_istore_5 (pc := 56) dX5_run_56 (by decide) (by first | rfl | trivial) ?_
  refine a_iinc_6 (pc := 58) (v := nI (2)) dX5_run_58 (nI_add _ _) (by decide) (by first | rfl | trivial) ?_
  refine a_goto (pc := 61) (tgt := 25) dX5_run_61 (by decide) ?_
  refine a_iload_6 (pc := 25) dX5_run_25 ?_
  refine a_bipush (pc := 27) (v := nI 8) dX5_run_27 (by decide) ?_
  refine n_icmp_ge (tgt := 64) dX5_run_29 (by decide) (by decide) (by decide) (fun c_29 => by omega) (fun c_29 => ?_)
  refine a_iload_5 (pc := 32) dX5_run_32 ?_
  refine n_if_le (tgt := 64) dX5_run_34 (by decide) (by decide) (fun c_34 => ?_) (fun c_34 => by omega)
  refine a_gets (pc := 64) (i := 4) (by decide) dX5_run_64 rfl w_895 ?_
  refine a_iload_5 (pc := 67) dX5_run_67 ?_
  refine a_iconst (pc := 69) (v := nI 4) dX5_run_69 (by decide) ?_
  refine n_imul dX5_run_70 ?_
  refine a_iloadn_2 (pc := 71) dX5_run_71 ?_
  refine n_iadd dX5_run_72 ?_
  refine a_sil (pc := 73) 3 (t := 4) (by decide) dX5_run_73 rfl (by decide) ?_
  refine a_topi (nI 2) (by decide) ?_
  refine a_istore_6 (pc := 74) dX5_run_74 (by decide) (by first | rfl | trivial) ?_
  refine a_aloadn_0 (pc := 76) dX5_run_76 ?_
  refine kg_29 (x := s.2) hm rfl dX5_run_77 rfl ?_
  refine a_bipush (pc := 80) (v := nI 24) dX5_run_80 (by decide) ?_
  refine n_icmp_ge (tgt := 96) dX5_run_82 (by decide) (by omega) (by decide) (fun c_82 => ?_) (fun c_82 => ?_)
  · have e9 : (rn s 2) = (s.1, s.2 + 1) := by unfold rn; rw [if_neg (by omega)]
    refine a_aloadn_0 (pc := 96) dX5_run_96 ?_
    refine a_dup (pc := 97) dX5_run_97 rfl ?_
    refine kg_29 (x := s.2) hm rfl dX5_run_98 rfl ?_
    refine a_iconst (pc := 101) (v := nI 1) dX5_run_101 (by decide) ?_
    refine n_iadd dX5_run_102 ?_
    refine kp_29 (x := s.2 + 1) hm rfl dX5_run_103 (fun h1 hm1 => ?_)
    have hm9 : SU G h0 h1 a (rn s 2) := by rw [e9]; exact hm1
    have er : (rn s 2).2 = s.2 + 1 := rfl
    refine a_iload_5 (pc := 106) dX5_run_106 ?_
    refine n_if_ne (tgt := 125) dX5_run_108 (by decide) (by decide) (fun c_108 => by omega) (fun c_108 => ?_)
    refine a_aloadn_0 (pc := 111) dX5_run_111 ?_
    refine a_iload_6 (pc := 112) dX5_run_112 ?_
    refine a_iloadn_3 (pc := 114) dX5_run_114 ?_
    refine a_iload_4 (pc := 115) dX5_run_115 ?_
    refine a_iconst (pc := 117) (v := nI 1) dX5_run_117 (by decide) ?_
    refine n_iadd dX5_run_118 ?_
    refine cv_X5_51 (pc := 119) rfl dX5_run_119 hm9.ob (Nat.le_of_ble_eq_true rfl) ?_
    refine k_body_2 (by omega) hz hm9 hsk (dp := (dp + 1)) (by omega) (by omega) (fun h2 hm2 => ?_)
    refine a_goto (pc := 122) (tgt := 138) dX5_run_122 (by decide) ?_
    exact a_iret (pc := 138) dX5_run_138 rfl (zf hz) (k9 _ (show SU G h0 _ a (rns s (tlS a.2.2.1 a.2.2.2 4 x).2) from hm2))
  · have e9 : (rn s 2) = (va_up s.1 s.2 2, s.2 + 1) := by unfold rn; rw [if_pos c_82]
    refine a_aloadn_0 (pc := 85) dX5_run_85 ?_
    refine kg_15 hm rfl dX5_run_86 ?_
    refine a_aloadn_0 (pc := 89) dX5_run_89 ?_
    refine kg_29 (x := s.2) hm rfl dX5_run_90 rfl ?_
    refine a_iload_6 (pc := 93) dX5_run_93 ?_
    refine ks_trace (j := s.2) (x := 2) hm dX5_run_95 (by omega) (fun h1 hm1 => ?_)
    refine a_aloadn_0 (pc := 96) dX5_run_96 ?_
    refine a_dup (pc := 97) dX5_run_97 rfl ?_
    refine kg_29 (x := ((va_up s.1 s.2 2, s.2)).2) hm1 rfl dX5_run_98 rfl ?_
    refine a_iconst (pc := 101) (v := nI 1) dX5_run_101 (by decide) ?_
    refine n_iadd dX5_run_102 ?_
    refine kp_29 (x := ((va_up s.1 s.2 2, s.2)).2 + 1) hm1 rfl dX5_run_103 (fun h2 hm2 => ?_)
    have hm9 : SU G h0 h2 a (rn s 2) := by rw [e9]; exact hm2
    have er : (rn s 2).2 = s.2 + 1 := rfl
    refine a_iload_5 (pc := 106) dX5_run_106 ?_
    refine n_if_ne (tgt := 125) dX5_run_108 (by decide) (by decide) (fun c_108 => by omega) (fun c_108 => ?_)
    refine a_aloadn_0 (pc := 111) dX5_run_111 ?_
    refine a_iload_6 (pc := 112) dX5_run_112 ?_
    refine a_iloadn_3 (pc := 114) dX5_run_114 ?_
    refine a_iload_4 (pc := 115) dX5_run_115 ?_
    refine a_iconst (pc := 117) (v := nI 1) dX5_run_117 (by decide) ?_
    refine n_iadd dX5_run_118 ?_
    refine cv_X5_51 (pc := 119) rfl dX5_run_119 hm9.ob (Nat.le_of_ble_eq_true rfl) ?_
    refine k_body_2 (by omega) hz hm9 hsk (dp := (dp + 1)) (by omega) (by omega) (fun h3 hm3 => ?_)
    refine a_goto (pc := 122) (tgt := 138) dX5_run_122 (by decide) ?_
    exact a_iret (pc := 138) dX5_run_138 rfl (zf hz) (k9 _ (show SU G h0 _ a (rns s (tlS a.2.2.1 a.2.2.2 4 x).2) from hm3))
set_option maxRecDepth 100000 in
set_option maxHeartbeats 4000000 in
theorem k_run3_6 {G : Cx} {d : Nat} {h h0 : List va_E} {a : Su} {s : Rn} {Q : Option Value → List va_E → Prop} (hd : 12 ≤ d) (hz : gz G = false) (hm : SU G h0 h a s) (hsk : a.2.2.2 < 8) {x : Int32} {dp : Nat} (hdp : dp ≤ 35) (hr : s.2 < 945) (k9 : ∀ h1, SU G h0 h1 a (rns s (tlS a.2.2.1 a.2.2.2 6 x).2) → Q (some (.int (tlS a.2.2.1 a.2.2.2 6 x).1)) h1) : AM G yX5_run cX5_run 7 (some .int) d 0 0 [.ref (gB G + 62), .int (nI (6)), .int (nI (3)), .int (x), .int (nI (dp))] h Q := by
  obtain ⟨d, rfl, he⟩ := dpos hd
  refine AM.of [some (.ref (gB G + 62)), some (.int (nI (6))), some (.int (nI (3))), some (.int (x)), some (.int (nI (dp))), none, none] pnX5 (Nat.le_of_ble_eq_true rfl) (by simp [lsub, lvI, Value.category]) ?_
  refine a_iload_4 (pc := 0) dX5_run_0 ?_
  refine a_bipush (pc := 2) (v := nI 40) dX5_run_2 (by decide) ?_
  refine n_icmp_gt (tgt := 17) dX5_run_4 (by decide) (by omega) (by decide) (fun c_4 => by omega) (fun c_4 => ?_)
  refine a_iloadn_1 (pc := 7) dX5_run_7 ?_
  refine a_iconst (pc := 8) (v := nI 0) dX5_run_8 (by decide) ?_
  refine a_bipush (pc := 9) (v := nI 7) dX5_run_9 (by decide) ?_
  refine cs_X5_22 (pc := 11) rfl dX5_run_11 (Nat.le_of_ble_eq_true rfl) ?_
  refine x_within (by omega) hz ?_
  refine a_topi (bI true) (by decide) ?_
  refine b_if_ne (pc := 14) (tgt := 19) dX5_run_14 (by decide) (fun c_14 => ?_) (fun c_14 => by cases c_14)
  refine a_iloadn_1 (pc := 19) dX5_run_19 ?_
  refine a_istore_5 (pc := 20) dX5_run_20 (by decide) (by first | rfl | trivial) ?_
  refine a_iconst (pc := 22) (v := nI 0) dX5_run_22 (by decide) ?_
  refine a_istore_6 (pc := 23) dX5_run_23 (by decide) (by first | rfl | trivial) ?_
  refine a_iload_6 (pc := 25) dX5_run_25 ?_
  refine a_bipush (pc := 27) (v := nI 8) dX5_run_27 (by decide) ?_
  refine n_icmp_ge (tgt := 64) dX5_run_29 (by decide) (by decide) (by decide) (fun c_29 => by omega) (fun c_29 => ?_)
  refine a_iload_5 (pc := 32) dX5_run_32 ?_
  refine n_if_le (tgt := 64) dX5_run_34 (by decide) (by decide) (fun c_34 => by omega) (fun c_34 => ?_)
  refine a_gets (pc := 37) (i := 4) (by decide) dX5_run_37 rfl w_895 ?_
  refine a_iload_5 (pc := 40) dX5_run_40 ?_
  refine a_iconst (pc := 42) (v := nI 4) dX5_run_42 (by decide) ?_
  refine n_imul dX5_run_43 ?_
  refine a_iloadn_2 (pc := 44) dX5_run_44 ?_
  refine n_iadd dX5_run_45 ?_
  refine a_sil (pc := 46) 27 (t := 4) (by decide) dX5_run_46 rfl (by decide) ?_
  refine a_topi (nI 0) (by decide) ?_
  refine n_if_ne (tgt := 64) dX5_run_47 (by decide) (by decide) (fun c_47 => by omega) (fun c_47 => ?_)
  refine a_gets (pc := 50) (i := 3) (by decide) dX5_run_50 rfl w_897 ?_
  refine a_iload_5 (pc := 53) dX5_run_53 ?_
  refine a_sil (pc := 55) 6 (t := 3) (by decide) dX5_run_55 rfl (by decide) ?_
  refine a_topi (nI 0) (by decide) ?_
  refine a_istore_5 (pc := 56) dX5_run_56 (by decide) (by first | rfl | trivial) ?_
  refine a_iinc_6 (pc := 58) (v := nI (1)) dX5_run_58 (nI_add _ _) (by decide) (by first | rfl | trivial) ?_
  refine a_goto (pc := 61) (tgt := 25) dX5_run_61 (by decide) ?_
  refine a_iload_6 (pc := 25) dX5_run_25 ?_
  refine a_bipush (pc := 27) (v := nI 8) dX5_run_27 (by decide) ?_
  refine n_icmp_ge (tgt := 64) dX5_run_29 (by decide) (by decide) (by decide) (fun c_29 => by omega) (fun c_29 => ?_)
  refine a_iload_5 (pc := 32) dX5_run_32 ?_
  refine n_if_le (tgt := 64) dX5_run_34 (by decide) (by decide) (fun c_34 => ?_) (fun c_34 => by omega)
  refine a_gets (pc := 64) (i := 4) (by decide) dX5_run_64 rfl w_895 ?_
  refine a_iload_5 (pc := 67) dX5_run_67 ?_
  refine a_iconst (pc := 69) (v := nI 4) dX5_run_69 (by decide) ?_
  refine n_imul dX5_run_70 ?_
  refine a_iloadn_2 (pc := 71) dX5_run_71 ?_
  refine n_iadd dX5_run_72 ?_
  refine a_sil (pc := 73) 3 (t := 4) (by decide) dX5_run_73 rfl (by decide) ?_
  refine a_topi (nI 2) (by decide) ?_
  refine a_istore_6 (pc := 74) dX5_run_74 (by decide) (by first | rfl | trivial) ?_
  refine a_aloadn_0 (pc := 76) dX5_run_76 ?_
  refine kg_29 (x := s.2) hm rfl dX5_run_77 rfl ?_
  refine a_bipush (pc := 80) (v := nI 24) dX5_run_80 (by decide) ?_
  refine n_icmp_ge (tgt := 96) dX5_run_82 (by decide) (by omega) (by decide) (fun c_82 => ?_) (fun c_82 => ?_)
  · have e9 : (rn s 2) = (s.1, s.2 + 1) := by unfold rn; rw [if_neg (by omega)]
    refine a_aloadn_0 (pc := 96) dX5_run_96 ?_
    refine a_dup (pc := 97) dX5_run_97 rfl ?_
    refine kg_29 (x := s.2) hm rfl dX5_run_98 rfl ?_
    refine a_iconst (pc := 101) (v := nI 1) dX5_run_101 (by decide) ?_
    refine n_iadd dX5_run_102 ?_
    refine kp_29 (x := s.2 + 1) hm rfl dX5_run_103 (fun h1 hm1 => ?_)
    have hm9 : SU G h0 h1 a (rn s 2) := by rw [e9]; exact hm1
    have er : (rn s 2).2 = s.2 + 1 := rfl
    refine a_iload_5 (pc := 106) dX5_run_106 ?_
    refine n_if_ne (tgt := 125) dX5_run_108 (by decide) (by decide) (fun c_108 => by omega) (fun c_108 => ?_)
    refine a_aloadn_0 (pc := 111) dX5_run_111 ?_
    refine a_iload_6 (pc := 112) dX5_run_112 ?_
    refine a_iloadn_3 (pc := 114) dX5_run_114 ?_
    refine a_iload_4 (pc := 115) dX5_run_115 ?_
    refine a_iconst (pc := 117) (v := nI 1) dX5_run_117 (by decide) ?_
    refine n_iadd dX5_run_118 ?_
    refine cv_X5_51 (pc := 119) rfl dX5_run_119 hm9.ob (Nat.le_of_ble_eq_true rfl) ?_
    refine k_body_2 (by omega) hz hm9 hsk (dp := (dp + 1)) (by omega) (by omega) (fun h2 hm2 => ?_)
    refine a_goto (pc := 122) (tgt := 138) dX5_run_122 (by decide) ?_
    exact a_iret (pc := 138) dX5_run_138 rfl (zf hz) (k9 _ (show SU G h0 _ a (rns s (tlS a.2.2.1 a.2.2.2 6 x).2) from hm2))
  · have e9 : (rn s 2) = (va_up s.1 s.2 2, s.2 + 1) := by unfold rn; rw [if_pos c_82]
    refine a_aloadn_0 (pc := 85) dX5_run_85 ?_
    refine kg_15 hm rfl dX5_run_86 ?_
    refine a_aloadn_0 (pc := 89) dX5_run_89 ?_
    refine kg_29 (x := s.2) hm rfl dX5_run_90 rfl ?_
    refine a_iload_6 (pc := 93) dX5_run_93 ?_
    refine ks_trace (j := s.2) (x := 2) hm dX5_run_95 (by omega) (fun h1 hm1 => ?_)
    refine a_aloadn_0 (pc := 96) dX5_run_96 ?_
    refine a_dup (pc := 97) dX5_run_97 rfl ?_
    refine kg_29 (x := ((va_up s.1 s.2 2, s.2)).2) hm1 rfl dX5_run_98 rfl ?_
    refine a_iconst (pc := 101) (v := nI 1) dX5_run_101 (by decide) ?_
    refine n_iadd dX5_run_102 ?_
    refine kp_29 (x := ((va_up s.1 s.2 2, s.2)).2 + 1) hm1 rfl dX5_run_103 (fun h2 hm2 => ?_)
    have hm9 : SU G h0 h2 a (rn s 2) := by rw [e9]; exact hm2
    have er : (rn s 2).2 = s.2 + 1 := rfl
    refine a_iload_5 (pc := 106) dX5_run_106 ?_
    refine n_if_ne (tgt := 125) dX5_run_108 (by decide) (by decide) (fun c_108 => by omega) (fun c_108 => ?_)
    refine a_aloadn_0 (pc := 111) dX5_run_111 ?_
    refine a_iload_6 (pc := 112) dX5_run_112 ?_
    refine a_iloadn_3 (pc := 114) dX5_run_114 ?_
    refine a_iload_4 (pc := 115) dX5_run_115 ?_
    refine a_iconst (pc := 117) (v := nI 1) dX5_run_117 (by decide) ?_
    refine n_iadd dX5_run_118 ?_
    refine cv_X5_51 (pc := 119) rfl dX5_run_119 hm9.ob (Nat.le_of_ble_eq_true rfl) ?_
    refine k_body_2 (by omega) hz hm9 hsk (dp := (dp + 1)) (by omega) (by omega) (fun h3 hm3 => ?_)
    refine a_goto (pc := 122) (tgt := 138) dX5_run_122 (by decide) ?_
    exact a_iret (pc := 138) dX5_run_138 rfl (zf hz) (k9 _ (show SU G h0 _ a (rns s (tlS a.2.2.1 a.2.2.2 6 x).2) from hm3))
set_option maxRecDepth 100000 in
set_option maxHeartbeats 4000000 in
theorem k_body_60 {G : Cx} {d : Nat} {h h0 : List va_E} {a : Su} {s : Rn} {Q : Option Value → List va_E → Prop} (hd : 13 ≤ d) (hz : gz G = false) (hm : SU G h0 h a s) (hsk : a.2.2.2 < 8) {x : Int32} {dp : Nat} (hdp : dp ≤ 35) (hr : s.2 < 945) (k9 : ∀ h1, SU G h0 h1 a (rns s (ud60 a x).2) → Q (some (.int (ud60 a x).1)) h1) : AM G yX5_runUnder cX5_runUnder 6 (some .int) d 0 0 [.ref (gB G + 62), .int (nI (60)), .int (nI (5)), .int (x), .int (nI (dp))] h Q := by
  obtain ⟨d, rfl, he⟩ := dpos hd
  refine AM.of [some (.ref (gB G + 62)), some (.int (nI (60))), some (.int (nI (5))), some (.int (x)), some (.int (nI (dp))), none] pnX5 (Nat.le_of_ble_eq_true rfl) (by simp [lsub, lvI, Value.category]) ?_
  refine a_gets (pc := 0) (i := 3) (by decide) dX5_runUnder_0 rfl w_897 ?_
  refine a_iloadn_2 (pc := 3) dX5_runUnder_3 ?_
  refine a_sil (pc := 4) 5 (t := 3) (by decide) dX5_runUnder_4 rfl (by decide) ?_
  refine a_topi (nI 3) (by decide) ?_
  refine a_istore_5 (pc := 5) dX5_runUnder_5 (by decide) (by first | rfl | trivial) ?_
  refine a_iloadn_1 (pc := 7) dX5_runUnder_7 ?_
  refine a_lookup (pc := 8) (off := 159) (tgt := 167) dX5_runUnder_8 (by decide) (by decide) (by decide) ?_
  refine a_aloadn_0 (pc := 167) dX5_runUnder_167 ?_
  refine a_iload_5 (pc := 168) dX5_runUnder_168 ?_
  refine a_iconst (pc := 170) (v := nI 3) dX5_runUnder_170 (by decide) ?_
  refine a_iloadn_3 (pc := 171) dX5_runUnder_171 ?_
  refine a_iload_4 (pc := 172) dX5_runUnder_172 ?_
  refine cv_X5_44 (pc := 174) rfl dX5_runUnder_174 hm.ob (Nat.le_of_ble_eq_true rfl) ?_
  refine k_run3_3 (by omega) hz hm hsk (dp := dp) (by omega) (by omega) (fun h1 hm1 => ?_)
  have hl1 := tlS_len a.2.2.1 a.2.2.2 3 ((x))
  have hr1 := rns_len (tlS a.2.2.1 a.2.2.2 3 ((x))).2 s
  refine a_iconst (pc := 177) (v := nI 5) dX5_runUnder_177 (by decide) ?_
  refine a_ixor (pc := 178) dX5_runUnder_178 ?_
  exact a_iret (pc := 179) dX5_runUnder_179 rfl (zf hz) (k9 _ (by rw [show rns s (ud60 a x).2 = (rns s (tlS a.2.2.1 a.2.2.2 3 ((x))).2) from (by first | rfl | exact rns_app _ _ _)]; exact hm1))
set_option maxRecDepth 100000 in
set_option maxHeartbeats 4000000 in
theorem k_body_81 {G : Cx} {d : Nat} {h h0 : List va_E} {a : Su} {s : Rn} {Q : Option Value → List va_E → Prop} (hd : 13 ≤ d) (hz : gz G = false) (hm : SU G h0 h a s) (hsk : a.2.2.2 < 8) {x : Int32} {dp : Nat} (hdp : dp ≤ 35) (hr : s.2 < 945) (k9 : ∀ h1, SU G h0 h1 a (rns s (ud81 a x).2) → Q (some (.int (ud81 a x).1)) h1) : AM G yX5_runUnder cX5_runUnder 6 (some .int) d 0 0 [.ref (gB G + 62), .int (nI (81)), .int (nI (7)), .int (x), .int (nI (dp))] h Q := by
  obtain ⟨d, rfl, he⟩ := dpos hd
  refine AM.of [some (.ref (gB G + 62)), some (.int (nI (81))), some (.int (nI (7))), some (.int (x)), some (.int (nI (dp))), none] pnX5 (Nat.le_of_ble_eq_true rfl) (by simp [lsub, lvI, Value.category]) ?_
  refine a_gets (pc := 0) (i := 3) (by decide) dX5_runUnder_0 rfl w_897 ?_
  refine a_iloadn_2 (pc := 3) dX5_runUnder_3 ?_
  refine a_sil (pc := 4) 7 (t := 3) (by decide) dX5_runUnder_4 rfl (by decide) ?_
  refine a_topi (nI 4) (by decide) ?_
  refine a_istore_5 (pc := 5) dX5_runUnder_5 (by decide) (by first | rfl | trivial) ?_
  refine a_iloadn_1 (pc := 7) dX5_runUnder_7 ?_
  refine a_lookup (pc := 8) (off := 209) (tgt := 217) dX5_runUnder_8 (by decide) (by decide) (by decide) ?_
  refine a_aloadn_0 (pc := 217) dX5_runUnder_217 ?_
  refine a_iload_5 (pc := 218) dX5_runUnder_218 ?_
  refine a_iconst (pc := 220) (v := nI 3) dX5_runUnder_220 (by decide) ?_
  refine a_iloadn_3 (pc := 221) dX5_runUnder_221 ?_
  refine a_iload_4 (pc := 222) dX5_runUnder_222 ?_
  refine cv_X5_44 (pc := 224) rfl dX5_runUnder_224 hm.ob (Nat.le_of_ble_eq_true rfl) ?_
  refine k_run3_4 (by omega) hz hm hsk (dp := dp) (by omega) (by omega) (fun h1 hm1 => ?_)
  have hl1 := tlS_len a.2.2.1 a.2.2.2 4 ((x))
  have hr1 := rns_len (tlS a.2.2.1 a.2.2.2 4 ((x))).2 s
  refine a_iconst (pc := 227) (v := nI 1) dX5_runUnder_227 (by decide) ?_
  refine a_isub (pc := 228) dX5_runUnder_228 ?_
  exact a_iret (pc := 229) dX5_runUnder_229 rfl (zf hz) (k9 _ (by rw [show rns s (ud81 a x).2 = (rns s (tlS a.2.2.1 a.2.2.2 4 ((x))).2) from (by first | rfl | exact rns_app _ _ _)]; exact hm1))
set_option maxRecDepth 100000 in
set_option maxHeartbeats 4000000 in
theorem k_run3_5 {G : Cx} {d : Nat} {h h0 : List va_E} {a : Su} {s : Rn} {Q : Option Value → List va_E → Prop} (hd : 14 ≤ d) (hz : gz G = false) (hm : SU G h0 h a s) (hsk : a.2.2.2 < 8) {x : Int32} {dp : Nat} (hdp : dp ≤ 34) (hr : s.2 < 940) (k9 : ∀ h1, SU G h0 h1 a (rns s (tlS a.2.2.1 a.2.2.2 5 x).2) → Q (some (.int (tlS a.2.2.1 a.2.2.2 5 x).1)) h1) : AM G yX5_run cX5_run 7 (some .int) d 0 0 [.ref (gB G + 62), .int (nI (5)), .int (nI (3)), .int (x), .int (nI (dp))] h Q := by
  obtain ⟨d, rfl, he⟩ := dpos hd
  refine AM.of [some (.ref (gB G + 62)), some (.int (nI (5))), some (.int (nI (3))), some (.int (x)), some (.int (nI (dp))), none, none] pnX5 (Nat.le_of_ble_eq_true rfl) (by simp [lsub, lvI, Value.category]) ?_
  refine a_iload_4 (pc := 0) dX5_run_0 ?_
  refine a_bipush (pc := 2) (v := nI 40) dX5_run_2 (by decide) ?_
  refine n_icmp_gt (tgt := 17) dX5_run_4 (by decide) (by omega) (by decide) (fun c_4 => by omega) (fun c_4 => ?_)
  refine a_iloadn_1 (pc := 7) dX5_run_7 ?_
  refine a_iconst (pc := 8) (v := nI 0) dX5_run_8 (by decide) ?_
  refine a_bipush (pc := 9) (v := nI 7) dX5_run_9 (by decide) ?_
  refine cs_X5_22 (pc := 11) rfl dX5_run_11 (Nat.le_of_ble_eq_true rfl) ?_
  refine x_within (by omega) hz ?_
  refine a_topi (bI true) (by decide) ?_
  refine b_if_ne (pc := 14) (tgt := 19) dX5_run_14 (by decide) (fun c_14 => ?_) (fun c_14 => by cases c_14)
  refine a_iloadn_1 (pc := 19) dX5_run_19 ?_
  refine a_istore_5 (pc := 20) dX5_run_20 (by decide) (by first | rfl | trivial) ?_
  refine a_iconst (pc := 22) (v := nI 0) dX5_run_22 (by decide) ?_
  refine a_istore_6 (pc := 23) dX5_run_23 (by decide) (by first | rfl | trivial) ?_
  refine a_iload_6 (pc := 25) dX5_run_25 ?_
  refine a_bipush (pc := 27) (v := nI 8) dX5_run_27 (by decide) ?_
  refine n_icmp_ge (tgt := 64) dX5_run_29 (by decide) (by decide) (by decide) (fun c_29 => by omega) (fun c_29 => ?_)
  refine a_iload_5 (pc := 32) dX5_run_32 ?_
  refine n_if_le (tgt := 64) dX5_run_34 (by decide) (by decide) (fun c_34 => by omega) (fun c_34 => ?_)
  refine a_gets (pc := 37) (i := 4) (by decide) dX5_run_37 rfl w_895 ?_
  refine a_iload_5 (pc := 40) dX5_run_40 ?_
  refine a_iconst (pc := 42) (v := nI 4) dX5_run_42 (by decide) ?_
  refine n_imul dX5_run_43 ?_
  refine a_iloadn_2 (pc := 44) dX5_run_44 ?_
  refine n_iadd dX5_run_45 ?_
  refine a_sil (pc := 46) 23 (t := 4) (by decide) dX5_run_46 rfl (by decide) ?_
  refine a_topi (nI 60) (by decide) ?_
  refine n_if_ne (tgt := 64) dX5_run_47 (by decide) (by decide) (fun c_47 => ?_) (fun c_47 => by omega)
  refine a_gets (pc := 64) (i := 4) (by decide) dX5_run_64 rfl w_895 ?_
  refine a_iload_5 (pc := 67) dX5_run_67 ?_
  refine a_iconst (pc := 69) (v := nI 4) dX5_run_69 (by decide) ?_
  refine n_imul dX5_run_70 ?_
  refine a_iloadn_2 (pc := 71) dX5_run_71 ?_
  refine n_iadd dX5_run_72 ?_
  refine a_sil (pc := 73) 23 (t := 4) (by decide) dX5_run_73 rfl (by decide) ?_
  refine a_topi (nI 60) (by decide) ?_
  refine a_istore_6 (pc := 74) dX5_run_74 (by decide) (by first | rfl | trivial) ?_
  refine a_aloadn_0 (pc := 76) dX5_run_76 ?_
  refine kg_29 (x := s.2) hm rfl dX5_run_77 rfl ?_
  refine a_bipush (pc := 80) (v := nI 24) dX5_run_80 (by decide) ?_
  refine n_icmp_ge (tgt := 96) dX5_run_82 (by decide) (by omega) (by decide) (fun c_82 => ?_) (fun c_82 => ?_)
  · have e9 : (rn s 60) = (s.1, s.2 + 1) := by unfold rn; rw [if_neg (by omega)]
    refine a_aloadn_0 (pc := 96) dX5_run_96 ?_
    refine a_dup (pc := 97) dX5_run_97 rfl ?_
    refine kg_29 (x := s.2) hm rfl dX5_run_98 rfl ?_
    refine a_iconst (pc := 101) (v := nI 1) dX5_run_101 (by decide) ?_
    refine n_iadd dX5_run_102 ?_
    refine kp_29 (x := s.2 + 1) hm rfl dX5_run_103 (fun h1 hm1 => ?_)
    have hm9 : SU G h0 h1 a (rn s 60) := by rw [e9]; exact hm1
    have er : (rn s 60).2 = s.2 + 1 := rfl
    refine a_iload_5 (pc := 106) dX5_run_106 ?_
    refine n_if_ne (tgt := 125) dX5_run_108 (by decide) (by decide) (fun c_108 => ?_) (fun c_108 => by omega)
    refine a_aloadn_0 (pc := 125) dX5_run_125 ?_
    refine a_iload_6 (pc := 126) dX5_run_126 ?_
    refine a_iload_5 (pc := 128) dX5_run_128 ?_
    refine a_iloadn_3 (pc := 130) dX5_run_130 ?_
    refine a_iload_4 (pc := 131) dX5_run_131 ?_
    refine a_iconst (pc := 133) (v := nI 1) dX5_run_133 (by decide) ?_
    refine n_iadd dX5_run_134 ?_
    refine cv_X5_55 (pc := 135) rfl dX5_run_135 hm9.ob (Nat.le_of_ble_eq_true rfl) ?_
    refine k_body_60 (by omega) hz hm9 hsk (dp := (dp + 1)) (by omega) (by omega) (fun h2 hm2 => ?_)
    exact a_iret (pc := 138) dX5_run_138 rfl (zf hz) (k9 _ (show SU G h0 _ a (rns s (tlS a.2.2.1 a.2.2.2 5 x).2) from hm2))
  · have e9 : (rn s 60) = (va_up s.1 s.2 60, s.2 + 1) := by unfold rn; rw [if_pos c_82]
    refine a_aloadn_0 (pc := 85) dX5_run_85 ?_
    refine kg_15 hm rfl dX5_run_86 ?_
    refine a_aloadn_0 (pc := 89) dX5_run_89 ?_
    refine kg_29 (x := s.2) hm rfl dX5_run_90 rfl ?_
    refine a_iload_6 (pc := 93) dX5_run_93 ?_
    refine ks_trace (j := s.2) (x := 60) hm dX5_run_95 (by omega) (fun h1 hm1 => ?_)
    refine a_aloadn_0 (pc := 96) dX5_run_96 ?_
    refine a_dup (pc := 97) dX5_run_97 rfl ?_
    refine kg_29 (x := ((va_up s.1 s.2 60, s.2)).2) hm1 rfl dX5_run_98 rfl ?_
    refine a_iconst (pc := 101) (v := nI 1) dX5_run_101 (by decide) ?_
    refine n_iadd dX5_run_102 ?_
    refine kp_29 (x := ((va_up s.1 s.2 60, s.2)).2 + 1) hm1 rfl dX5_run_103 (fun h2 hm2 => ?_)
    have hm9 : SU G h0 h2 a (rn s 60) := by rw [e9]; exact hm2
    have er : (rn s 60).2 = s.2 + 1 := rfl
    refine a_iload_5 (pc := 106) dX5_run_106 ?_
    refine n_if_ne (tgt := 125) dX5_run_108 (by decide) (by decide) (fun c_108 => ?_) (fun c_108 => by omega)
    refine a_aloadn_0 (pc := 125) dX5_run_125 ?_
    refine a_iload_6 (pc := 126) dX5_run_126 ?_
    refine a_iload_5 (pc := 128) dX5_run_128 ?_
    refine a_iloadn_3 (pc := 130) dX5_run_130 ?_
    refine a_iload_4 (pc := 131) dX5_run_131 ?_
    refine a_iconst (pc := 133) (v := nI 1) dX5_run_133 (by decide) ?_
    refine n_iadd dX5_run_134 ?_
    refine cv_X5_55 (pc := 135) rfl dX5_run_135 hm9.ob (Nat.le_of_ble_eq_true rfl) ?_
    refine k_body_60 (by omega) hz hm9 hsk (dp := (dp + 1)) (by omega) (by omega) (fun h3 hm3 => ?_)
    exact a_iret (pc := 138) dX5_run_138 rfl (zf hz) (k9 _ (show SU G h0 _ a (rns s (tlS a.2.2.1 a.2.2.2 5 x).2) from hm3))
set_option maxRecDepth 100000 in
set_option maxHeartbeats 4000000 in
theorem k_run3_7 {G : Cx} {d : Nat} {h h0 : List va_E} {a : Su} {s : Rn} {Q : Option Value → List va_E → Prop} (hd : 14 ≤ d) (hz : gz G = false) (hm : SU G h0 h a s) (hsk : a.2.2.2 < 8) {x : Int32} {dp : Nat} (hdp : dp ≤ 34) (hr : s.2 < 940) (k9 : ∀ h1, SU G h0 h1 a (rns s (tlS a.2.2.1 a.2.2.2 7 x).2) → Q (some (.int (tlS a.2.2.1 a.2.2.2 7 x).1)) h1) : AM G yX5_run cX5_run 7 (some .int) d 0 0 [.ref (gB G + 62), .int (nI (7)), .int (nI (3)), .int (x), .int (nI (dp))] h Q := by
  obtain ⟨d, rfl, he⟩ := dpos hd
  refine AM.of [some (.ref (gB G + 62)), some (.int (nI (7))), some (.int (nI (3))), some (.int (x)), some (.int (nI (dp))), none, none] pnX5 (Nat.le_of_ble_eq_true rfl) (by simp [lsub, lvI, Value.category]) ?_
  refine a_iload_4 (pc := 0) dX5_run_0 ?_
  refine a_bipush (pc := 2) (v := nI 40) dX5_run_2 (by decide) ?_
  refine n_icmp_gt (tgt := 17) dX5_run_4 (by decide) (by omega) (by decide) (fun c_4 => by omega) (fun c_4 => ?_)
  refine a_iloadn_1 (pc := 7) dX5_run_7 ?_
  refine a_iconst (pc := 8) (v := nI 0) dX5_run_8 (by decide) ?_
  refine a_bipush (pc := 9) (v := nI 7) dX5_run_9 (by decide) ?_
  refine cs_X5_22 (pc := 11) rfl dX5_run_11 (Nat.le_of_ble_eq_true rfl) ?_
  refine x_within (by omega) hz ?_
  refine a_topi (bI true) (by decide) ?_
  refine b_if_ne (pc := 14) (tgt := 19) dX5_run_14 (by decide) (fun c_14 => ?_) (fun c_14 => by cases c_14)
  refine a_iloadn_1 (pc := 19) dX5_run_19 ?_
  refine a_istore_5 (pc := 20) dX5_run_20 (by decide) (by first | rfl | trivial) ?_
  refine a_iconst (pc := 22) (v := nI 0) dX5_run_22 (by decide) ?_
  refine a_istore_6 (pc := 23) dX5_run_23 (by decide) (by first | rfl | trivial) ?_
  refine a_iload_6 (pc := 25) dX5_run_25 ?_
  refine a_bipush (pc := 27) (v := nI 8) dX5_run_27 (by decide) ?_
  refine n_icmp_ge (tgt := 64) dX5_run_29 (by decide) (by decide) (by decide) (fun c_29 => by omega) (fun c_29 => ?_)
  refine a_iload_5 (pc := 32) dX5_run_32 ?_
  refine n_if_le (tgt := 64) dX5_run_34 (by decide) (by decide) (fun c_34 => by omega) (fun c_34 => ?_)
  refine a_gets (pc := 37) (i := 4) (by decide) dX5_run_37 rfl w_895 ?_
  refine a_iload_5 (pc := 40) dX5_run_40 ?_
  refine a_iconst (pc := 42) (v := nI 4) dX5_run_42 (by decide) ?_
  refine n_imul dX5_run_43 ?_
  refine a_iloadn_2 (pc := 44) dX5_run_44 ?_
  refine n_iadd dX5_run_45 ?_
  refine a_sil (pc := 46) 31 (t := 4) (by decide) dX5_run_46 rfl (by decide) ?_
  refine a_topi (nI 81) (by decide) ?_
  refine n_if_ne (tgt := 64) dX5_run_47 (by decide) (by decide) (fun c_47 => ?_) (fun c_47 => by omega)
  refine a_gets (pc := 64) (i := 4) (by decide) dX5_run_64 rfl w_895 ?_
  refine a_iload_5 (pc := 67) dX5_run_67 ?_
  refine a_iconst (pc := 69) (v := nI 4) dX5_run_69 (by decide) ?_
  refine n_imul dX5_run_70 ?_
  refine a_iloadn_2 (pc := 71) dX5_run_71 ?_
  refine n_iadd dX5_run_72 ?_
  refine a_sil (pc := 73) 31 (t := 4) (by decide) dX5_run_73 rfl (by decide) ?_
  refine a_topi (nI 81) (by decide) ?_
  refine a_istore_6 (pc := 74) dX5_run_74 (by decide) (by first | rfl | trivial) ?_
  refine a_aloadn_0 (pc := 76) dX5_run_76 ?_
  refine kg_29 (x := s.2) hm rfl dX5_run_77 rfl ?_
  refine a_bipush (pc := 80) (v := nI 24) dX5_run_80 (by decide) ?_
  refine n_icmp_ge (tgt := 96) dX5_run_82 (by decide) (by omega) (by decide) (fun c_82 => ?_) (fun c_82 => ?_)
  · have e9 : (rn s 81) = (s.1, s.2 + 1) := by unfold rn; rw [if_neg (by omega)]
    refine a_aloadn_0 (pc := 96) dX5_run_96 ?_
    refine a_dup (pc := 97) dX5_run_97 rfl ?_
    refine kg_29 (x := s.2) hm rfl dX5_run_98 rfl ?_
    refine a_iconst (pc := 101) (v := nI 1) dX5_run_101 (by decide) ?_
    refine n_iadd dX5_run_102 ?_
    refine kp_29 (x := s.2 + 1) hm rfl dX5_run_103 (fun h1 hm1 => ?_)
    have hm9 : SU G h0 h1 a (rn s 81) := by rw [e9]; exact hm1
    have er : (rn s 81).2 = s.2 + 1 := rfl
    refine a_iload_5 (pc := 106) dX5_run_106 ?_
    refine n_if_ne (tgt := 125) dX5_run_108 (by decide) (by decide) (fun c_108 => ?_) (fun c_108 => by omega)
    refine a_aloadn_0 (pc := 125) dX5_run_125 ?_
    refine a_iload_6 (pc := 126) dX5_run_126 ?_
    refine a_iload_5 (pc := 128) dX5_run_128 ?_
    refine a_iloadn_3 (pc := 130) dX5_run_130 ?_
    refine a_iload_4 (pc := 131) dX5_run_131 ?_
    refine a_iconst (pc := 133) (v := nI 1) dX5_run_133 (by decide) ?_
    refine n_iadd dX5_run_134 ?_
    refine cv_X5_55 (pc := 135) rfl dX5_run_135 hm9.ob (Nat.le_of_ble_eq_true rfl) ?_
    refine k_body_81 (by omega) hz hm9 hsk (dp := (dp + 1)) (by omega) (by omega) (fun h2 hm2 => ?_)
    exact a_iret (pc := 138) dX5_run_138 rfl (zf hz) (k9 _ (show SU G h0 _ a (rns s (tlS a.2.2.1 a.2.2.2 7 x).2) from hm2))
  · have e9 : (rn s 81) = (va_up s.1 s.2 81, s.2 + 1) := by unfold rn; rw [if_pos c_82]
    refine a_aloadn_0 (pc := 85) dX5_run_85 ?_
    refine kg_15 hm rfl dX5_run_86 ?_
    refine a_aloadn_0 (pc := 89) dX5_run_89 ?_
    refine kg_29 (x := s.2) hm rfl dX5_run_90 rfl ?_
    refine a_iload_6 (pc := 93) dX5_run_93 ?_
    refine ks_trace (j := s.2) (x := 81) hm dX5_run_95 (by omega) (fun h1 hm1 => ?_)
    refine a_aloadn_0 (pc := 96) dX5_run_96 ?_
    refine a_dup (pc := 97) dX5_run_97 rfl ?_
    refine kg_29 (x := ((va_up s.1 s.2 81, s.2)).2) hm1 rfl dX5_run_98 rfl ?_
    refine a_iconst (pc := 101) (v := nI 1) dX5_run_101 (by decide) ?_
    refine n_iadd dX5_run_102 ?_
    refine kp_29 (x := ((va_up s.1 s.2 81, s.2)).2 + 1) hm1 rfl dX5_run_103 (fun h2 hm2 => ?_)
    have hm9 : SU G h0 h2 a (rn s 81) := by rw [e9]; exact hm2
    have er : (rn s 81).2 = s.2 + 1 := rfl
    refine a_iload_5 (pc := 106) dX5_run_106 ?_
    refine n_if_ne (tgt := 125) dX5_run_108 (by decide) (by decide) (fun c_108 => ?_) (fun c_108 => by omega)
    refine a_aloadn_0 (pc := 125) dX5_run_125 ?_
    refine a_iload_6 (pc := 126) dX5_run_126 ?_
    refine a_iload_5 (pc := 128) dX5_run_128 ?_
    refine a_iloadn_3 (pc := 130) dX5_run_130 ?_
    refine a_iload_4 (pc := 131) dX5_run_131 ?_
    refine a_iconst (pc := 133) (v := nI 1) dX5_run_133 (by decide) ?_
    refine n_iadd dX5_run_134 ?_
    refine cv_X5_55 (pc := 135) rfl dX5_run_135 hm9.ob (Nat.le_of_ble_eq_true rfl) ?_
    refine k_body_81 (by omega) hz hm9 hsk (dp := (dp + 1)) (by omega) (by omega) (fun h3 hm3 => ?_)
    exact a_iret (pc := 138) dX5_run_138 rfl (zf hz) (k9 _ (show SU G h0 _ a (rns s (tlS a.2.2.1 a.2.2.2 7 x).2) from hm3))
theorem k_run3 {G : Cx} {d : Nat} {h h0 : List va_E} {a : Su} {s : Rn} {Q : Option Value → List va_E → Prop} (hd : 14 ≤ d) (hz : gz G = false) (hm : SU G h0 h a s) (hsk : a.2.2.2 < 8) {k : Nat} (hk : k < 8) {x : Int32} {dp : Nat} (hdp : dp ≤ 34) (hr : s.2 < 930) (k9 : ∀ h1, SU G h0 h1 a (rns s (tlS a.2.2.1 a.2.2.2 k x).2) → Q (some (.int (tlS a.2.2.1 a.2.2.2 k x).1)) h1) : AM G yX5_run cX5_run 7 (some .int) d 0 0 [.ref (gB G + 62), .int (nI k), .int (nI 3), .int x, .int (nI dp)] h Q := by
  rcases k8 hk with rfl | rfl | rfl | rfl | rfl | rfl | rfl | rfl
  · exact k_run3_0 (by omega) hz hm hsk (by omega) (by omega) k9
  · exact k_run3_1 (by omega) hz hm hsk (by omega) (by omega) k9
  · exact k_run3_2 (by omega) hz hm hsk (by omega) (by omega) k9
  · exact k_run3_3 (by omega) hz hm hsk (by omega) (by omega) k9
  · exact k_run3_4 (by omega) hz hm hsk (by omega) (by omega) k9
  · exact k_run3_5 (by omega) hz hm hsk (by omega) (by omega) k9
  · exact k_run3_6 (by omega) hz hm hsk (by omega) (by omega) k9
  · exact k_run3_7 (by omega) hz hm hsk (by omega) (by omega) k9
