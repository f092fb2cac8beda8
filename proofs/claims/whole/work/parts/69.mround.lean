set_option maxRecDepth 100000 in
set_option maxHeartbeats 4000000 in
theorem m_roundEnd {G : Cx} {d : Nat} {h h0 : List va_E} {b : MB} {p : MP} {t : MT} {o : MO} {Q : Option Value → List va_E → Prop} (hd : 75 ≤ d) (hz : gz G = false) (hm : MS G h0 h (b, p, t, o)) {v : Cv} {F : Lf} (hb : BV (b, p, t, o) v) (okv : okC v) (hL : LM b F) {r m : Nat} {P : Nat → Nat} {C : Nat → Cv} (hr : r < 36) (hm4 : m ≤ 4) (hf : o.2.2.2.2.1 ≤ 1000000) (hP : WAY F r v o.2.2.1 m P C) (k : ∀ h1 p1 t1 o1, sOf o1 = wghN m (ctn (cK (C m)) 36) (sOf o) → MS G h0 h1 (b, p1, t1, o1) → o1.2.1 = o.2.1 → Q none h1) : AM G yX12_triesRound cX12_triesRound 6 none d 0 0 [.ref (gB G + 80), .int (nI (r)), .int (nI (m)), .int (nI (m))] h Q := by
  obtain ⟨d, rfl, he⟩ := dpos hd
  obtain ⟨W, hW⟩ : ∃ W, W = o.2.2.1 := ⟨_, rfl⟩
  obtain ⟨B, hB⟩ : ∃ B, B = o.2.2.2.1 := ⟨_, rfl⟩
  obtain ⟨f0, hf0⟩ : ∃ f0, f0 = o.2.2.2.2.1 := ⟨_, rfl⟩
  rw [← hW] at hP
  rw [← hf0] at hf
  have k : ∀ h1 p1 t1 o1, sOf o1 = wghN m (ctn (cK (C m)) 36) (W, B, f0) → MS G h0 h1 (b, p1, t1, o1) → o1.2.1 = o.2.1 → Q none h1 := fun h1 p1 t1 o1 e => k h1 p1 t1 o1 (by rw [e, hW, hB, hf0])
  have okc := hP.okC hr okv
  have c36 := ctn_le (cK (C m)) 36
  have lp : ∀ (n : Nat) (i : Nat) (h1 : List va_E) (p1 : MP) (t1 : MT), m - i < n → (i ≤ m) → (MS G h0 h1 (b, p1, t1, o)) → (HV (b, p1, t1, o) (C i)) → AW G yX12_triesRound cX12_triesRound 6 none (rmx (d + 1) 0 0) (ZQ G 0 0 (h.length + 0) Q) 0 0 15 [some (.ref (gB G + 80)), some (.int (nI (r))), some (.int (nI (m))), some (.int (nI (m))), some (.int (nI (P i))), some (.int (nI (i)))] [] h1 := by
    intro n
    induction n with
    | zero => intro i h1 p1 t1 hn; exact absurd hn (Nat.not_lt_zero _)
    | succ n ih =>
      intro i h1 p1 t1 hn hi hm1 hv1
      refine a_iload_5 (pc := 15) dX12_triesRound_15 ?_
      refine a_iloadn_3 (pc := 17) dX12_triesRound_17 ?_
      refine n_icmp_ge (tgt := 92) dX12_triesRound_18 (by decide) (by omega) (by omega) (fun c_18 => ?_) (fun c_18 => ?_)
      · have im : m = i := by omega
        subst im
        refine a_aloadn_0 (pc := 92) dX12_triesRound_92 ?_
        refine cv_X12_232 (pc := 93) rfl dX12_triesRound_93 hm1.2.2.1 (Nat.le_of_ble_eq_true rfl) ?_
        refine m_darkMany (by omega) hz hm1 hv1 ?_
        refine a_aloadn_0 (pc := 96) dX12_triesRound_96 ?_
        refine mg_272 (x := f0) hm1 rfl dX12_triesRound_97 (by rw [hf0]) ?_
        refine n_icmp_ge (tgt := 140) dX12_triesRound_100 (by decide) (by omega) (by omega) (fun c_100 => ?_) (fun c_100 => ?_)
        · exact a_vret (pc := 140) dX12_triesRound_140 rfl (zf hz) (k _ _ _ o (by rw [wghN, if_neg (by show ¬ _ < f0; omega), hW, hB, hf0]) hm1 rfl)
        · refine a_aloadn_0 (pc := 103) dX12_triesRound_103 ?_
          refine a_aloadn_0 (pc := 104) dX12_triesRound_104 ?_
          refine cv_X12_232 (pc := 105) rfl dX12_triesRound_105 hm1.2.2.1 (Nat.le_of_ble_eq_true rfl) ?_
          refine m_darkMany (by omega) hz hm1 hv1 ?_
          refine mp_272 (x := ctn (cK ((C m))) 36) hm1 rfl dX12_triesRound_108 (fun h4 hm4 => ?_)
          refine a_iconst (pc := 111) (v := nI 0) dX12_triesRound_111 (by decide) ?_
          refine a_istore_5 (pc := 112) dX12_triesRound_112 (by decide) (by first | rfl | trivial) ?_
          have hD : ctn (cK (C m)) 36 < (W, B, f0).2.2 := by show _ < f0; omega
          have lb : ∀ (n : Nat) (i : Nat) (h2 : List va_E) (p2 : MP) (t2 : MT), m - i < n → (i ≤ m) → (MS G h0 h2 (sBestWalk (sFewestDark (b, p2, t2, o) (ctn (cK (C m)) 36)) (cpn i W B))) → AW G yX12_triesRound cX12_triesRound 6 none (rmx (d + 1) 0 0) (ZQ G 0 0 (h.length + 0) Q) 0 0 114 [some (.ref (gB G + 80)), some (.int (nI (r))), some (.int (nI (m))), some (.int (nI (m))), some (.int (nI (P m))), some (.int (nI (i)))] [] h2 := by
            intro n
            induction n with
            | zero => intro i h2 p2 t2 hn; exact absurd hn (Nat.not_lt_zero _)
            | succ n ih =>
              intro i h2 p2 t2 hn hi hm2
              refine a_iload_5 (pc := 114) dX12_triesRound_114 ?_
              refine a_iloadn_3 (pc := 116) dX12_triesRound_116 ?_
              refine n_icmp_ge (tgt := 140) dX12_triesRound_117 (by decide) (by omega) (by omega) (fun c_117 => ?_) (fun c_117 => ?_)
              · exact a_vret (pc := 140) dX12_triesRound_140 rfl (zf hz) (k _ _ _ _ (by rw [wghN, if_pos hD]; show (o.2.2.1, cpn i W B, ctn (cK (C m)) 36) = (W, cpn m W B, ctn (cK (C m)) 36); rw [← hW, show i = m by omega]) hm2 rfl)
              · refine a_aloadn_0 (pc := 120) dX12_triesRound_120 ?_
                refine mg_50 hm2 rfl dX12_triesRound_121 ?_
                refine a_iload_5 (pc := 124) dX12_triesRound_124 ?_
                refine a_aloadn_0 (pc := 126) dX12_triesRound_126 ?_
                refine mg_47 hm2 rfl dX12_triesRound_127 ?_
                refine a_iload_5 (pc := 130) dX12_triesRound_130 ?_
                refine ml_walked (x := W i) hm2 dX12_triesRound_132 (by omega) (by rw [hW]) ?_
                refine ms_bestWalk (j := i) (x := W i) hm2 dX12_triesRound_133 (by omega) (fun h6 hm6 => ?_)
                refine a_iinc_5 (pc := 134) (v := nI (i + 1)) dX12_triesRound_134 (nI_add _ _) (by decide) (by first | rfl | trivial) ?_
                refine a_goto (pc := 137) (tgt := 114) dX12_triesRound_137 (by decide) ?_
                exact ih (i + 1) _ _ _ (by omega) (by omega) (by rw [← cpn_s]; exact hm6)
          exact lb (m + 1) 0 _ _ _ (by omega) (Nat.zero_le _) (by rw [cpn_0, hB]; exact hm4)
      · obtain ⟨q1, q2, q3⟩ := hP.2.2 i (by omega)
        have p36 := hP.lt hr (i + 1) (by omega)
        have p35 := hP.lt hr i (by omega)
        have ok9 : okC (if cK (C i) (P (i + 1)) = false ∧ cW (C i) (P (i + 1)) < 6 then csW (C i) (P (i + 1)) 6 else C i) := by
          split
          · exact okC_W (okc i (by omega)) p36 (by decide)
          · exact okc i (by omega)
        refine a_aloadn_0 (pc := 21) dX12_triesRound_21 ?_
        refine mg_47 hm1 rfl dX12_triesRound_22 ?_
        refine a_iload_5 (pc := 25) dX12_triesRound_25 ?_
        refine ml_walked (x := W i) hm1 dX12_triesRound_27 (by omega) (by rw [hW]) ?_
        refine a_iconst (pc := 28) (v := nI 4) dX12_triesRound_28 (by decide) ?_
        refine n_icmp_ne (tgt := 37) dX12_triesRound_29 (by decide) (by omega) (by decide) (fun c_29 => ?_) (fun c_29 => ?_)
        · have hbs : bsd (P i) (W i) = some (P (i + 1)) := by rw [bes5, if_neg (by omega)] at q1; exact q1
          refine a_iload_4 (pc := 37) dX12_triesRound_37 ?_
          refine a_aloadn_0 (pc := 39) dX12_triesRound_39 ?_
          refine mg_47 hm1 rfl dX12_triesRound_40 ?_
          refine a_iload_5 (pc := 43) dX12_triesRound_43 ?_
          refine ml_walked (x := W i) hm1 dX12_triesRound_45 (by omega) (by rw [hW]) ?_
          refine cs_X12_193 (pc := 46) rfl dX12_triesRound_46 (Nat.le_of_ble_eq_true rfl) ?_
          refine m_beside (by omega) hz (by omega) (by omega) ?_
          refine a_topi (nI (P (i + 1))) (by rw [hbs]; rfl) ?_
          refine a_istore_4 (pc := 49) dX12_triesRound_49 (by decide) (by first | rfl | trivial) ?_
          refine a_aloadn_0 (pc := 51) dX12_triesRound_51 ?_
          refine mg_34 hm1 rfl dX12_triesRound_52 ?_
          refine a_iload_4 (pc := 55) dX12_triesRound_55 ?_
          refine ml_isDark (x := (cK ((C i)) (P (i + 1))).toNat) hm1 dX12_triesRound_57 (by omega) (hv1.1 (P (i + 1)) (by omega)).2.1 ?_
          refine a_topi (bI (cK ((C i)) (P (i + 1)))) (bI_nI _).symm ?_
          refine b_if_ne (pc := 58) (tgt := 82) dX12_triesRound_58 (by decide) (fun c_58 => ?_) (fun c_58 => ?_)
          · have hv9 : HV (b, p1, t1, o) (if cK (C i) (P (i + 1)) = false ∧ cW (C i) (P (i + 1)) < 6 then csW (C i) (P (i + 1)) 6 else C i) := by
              rw [if_neg (by rw [c_58]; simp)]; exact hv1
            refine a_aloadn_0 (pc := 82) dX12_triesRound_82 ?_
            refine cv_X12_217 (pc := 83) rfl dX12_triesRound_83 hm1.2.2.1 (Nat.le_of_ble_eq_true rfl) ?_
            refine m_goesHour (by omega) hz hm1 hv9 ok9 hL (fun h7 p7 t7 hm7 hv7 hl7 => ?_)
            refine a_iinc_5 (pc := 86) (v := nI (i + 1)) dX12_triesRound_86 (nI_add _ _) (by decide) (by first | rfl | trivial) ?_
            refine a_goto (pc := 89) (tgt := 15) dX12_triesRound_89 (by decide) ?_
            exact ih (i + 1) _ _ _ (by omega) (by omega) hm7 (by rw [q2]; exact hv7)
          · refine a_aloadn_0 (pc := 61) dX12_triesRound_61 ?_
            refine mg_31 hm1 rfl dX12_triesRound_62 ?_
            refine a_iload_4 (pc := 65) dX12_triesRound_65 ?_
            have w99 := (okc i (by omega)).1 (P (i + 1))
            refine ml_wax (x := cW ((C i)) (P (i + 1))) hm1 dX12_triesRound_67 (by omega) (hv1.1 (P (i + 1)) (by omega)).1 ?_
            refine a_bipush (pc := 68) (v := nI 6) dX12_triesRound_68 (by decide) ?_
            refine n_icmp_ge (tgt := 82) dX12_triesRound_70 (by decide) (by omega) (by decide) (fun c_70 => ?_) (fun c_70 => ?_)
            · have w9 := c_70
              have hv9 : HV (b, p1, t1, o) (if cK (C i) (P (i + 1)) = false ∧ cW (C i) (P (i + 1)) < 6 then csW (C i) (P (i + 1)) 6 else C i) := by
                rw [if_neg (by omega)]; exact hv1
              refine a_aloadn_0 (pc := 82) dX12_triesRound_82 ?_
              refine cv_X12_217 (pc := 83) rfl dX12_triesRound_83 hm1.2.2.1 (Nat.le_of_ble_eq_true rfl) ?_
              refine m_goesHour (by omega) hz hm1 hv9 ok9 hL (fun h7 p7 t7 hm7 hv7 hl7 => ?_)
              refine a_iinc_5 (pc := 86) (v := nI (i + 1)) dX12_triesRound_86 (nI_add _ _) (by decide) (by first | rfl | trivial) ?_
              refine a_goto (pc := 89) (tgt := 15) dX12_triesRound_89 (by decide) ?_
              exact ih (i + 1) _ _ _ (by omega) (by omega) hm7 (by rw [q2]; exact hv7)
            · refine a_aloadn_0 (pc := 73) dX12_triesRound_73 ?_
              refine mg_31 hm1 rfl dX12_triesRound_74 ?_
              refine a_iload_4 (pc := 77) dX12_triesRound_77 ?_
              refine a_bipush (pc := 79) (v := nI 6) dX12_triesRound_79 (by decide) ?_
              refine ms_wax (j := (P (i + 1))) (x := 6) hm1 dX12_triesRound_81 (by omega) (fun h4 hm4 => ?_)
              have hv9 : HV (sWax (b, p1, t1, o) (va_up (mWax (b, p1, t1, o)) (P (i + 1)) 6)) (if cK (C i) (P (i + 1)) = false ∧ cW (C i) (P (i + 1)) < 6 then csW (C i) (P (i + 1)) 6 else C i) := by
                rw [if_pos ⟨c_58, by omega⟩]; exact HV_W hv1
              refine a_aloadn_0 (pc := 82) dX12_triesRound_82 ?_
              refine cv_X12_217 (pc := 83) rfl dX12_triesRound_83 hm4.2.2.1 (Nat.le_of_ble_eq_true rfl) ?_
              refine m_goesHour (by omega) hz hm4 hv9 ok9 hL (fun h7 p7 t7 hm7 hv7 hl7 => ?_)
              refine a_iinc_5 (pc := 86) (v := nI (i + 1)) dX12_triesRound_86 (nI_add _ _) (by decide) (by first | rfl | trivial) ?_
              refine a_goto (pc := 89) (tgt := 15) dX12_triesRound_89 (by decide) ?_
              exact ih (i + 1) _ _ _ (by omega) (by omega) hm7 (by rw [q2]; exact hv7)
        · have eP : P i = P (i + 1) := by rw [bes5, if_pos (by omega)] at q1; exact Option.some.inj q1
          refine a_iload_4 (pc := 32) dX12_triesRound_32 ?_
          refine a_goto (pc := 34) (tgt := 49) dX12_triesRound_34 (by decide) ?_
          refine a_topi (nI (P (i + 1))) (by rw [eP]) ?_
          refine a_istore_4 (pc := 49) dX12_triesRound_49 (by decide) (by first | rfl | trivial) ?_
          refine a_aloadn_0 (pc := 51) dX12_triesRound_51 ?_
          refine mg_34 hm1 rfl dX12_triesRound_52 ?_
          refine a_iload_4 (pc := 55) dX12_triesRound_55 ?_
          refine ml_isDark (x := (cK ((C i)) (P (i + 1))).toNat) hm1 dX12_triesRound_57 (by omega) (hv1.1 (P (i + 1)) (by omega)).2.1 ?_
          refine a_topi (bI (cK ((C i)) (P (i + 1)))) (bI_nI _).symm ?_
          refine b_if_ne (pc := 58) (tgt := 82) dX12_triesRound_58 (by decide) (fun c_58 => ?_) (fun c_58 => ?_)
          · have hv9 : HV (b, p1, t1, o) (if cK (C i) (P (i + 1)) = false ∧ cW (C i) (P (i + 1)) < 6 then csW (C i) (P (i + 1)) 6 else C i) := by
              rw [if_neg (by rw [c_58]; simp)]; exact hv1
            refine a_aloadn_0 (pc := 82) dX12_triesRound_82 ?_
            refine cv_X12_217 (pc := 83) rfl dX12_triesRound_83 hm1.2.2.1 (Nat.le_of_ble_eq_true rfl) ?_
            refine m_goesHour (by omega) hz hm1 hv9 ok9 hL (fun h7 p7 t7 hm7 hv7 hl7 => ?_)
            refine a_iinc_5 (pc := 86) (v := nI (i + 1)) dX12_triesRound_86 (nI_add _ _) (by decide) (by first | rfl | trivial) ?_
            refine a_goto (pc := 89) (tgt := 15) dX12_triesRound_89 (by decide) ?_
            exact ih (i + 1) _ _ _ (by omega) (by omega) hm7 (by rw [q2]; exact hv7)
          · refine a_aloadn_0 (pc := 61) dX12_triesRound_61 ?_
            refine mg_31 hm1 rfl dX12_triesRound_62 ?_
            refine a_iload_4 (pc := 65) dX12_triesRound_65 ?_
            have w99 := (okc i (by omega)).1 (P (i + 1))
            refine ml_wax (x := cW ((C i)) (P (i + 1))) hm1 dX12_triesRound_67 (by omega) (hv1.1 (P (i + 1)) (by omega)).1 ?_
            refine a_bipush (pc := 68) (v := nI 6) dX12_triesRound_68 (by decide) ?_
            refine n_icmp_ge (tgt := 82) dX12_triesRound_70 (by decide) (by omega) (by decide) (fun c_70 => ?_) (fun c_70 => ?_)
            · have w9 := c_70
              have hv9 : HV (b, p1, t1, o) (if cK (C i) (P (i + 1)) = false ∧ cW (C i) (P (i + 1)) < 6 then csW (C i) (P (i + 1)) 6 else C i) := by
                rw [if_neg (by omega)]; exact hv1
              refine a_aloadn_0 (pc := 82) dX12_triesRound_82 ?_
              refine cv_X12_217 (pc := 83) rfl dX12_triesRound_83 hm1.2.2.1 (Nat.le_of_ble_eq_true rfl) ?_
              refine m_goesHour (by omega) hz hm1 hv9 ok9 hL (fun h7 p7 t7 hm7 hv7 hl7 => ?_)
              refine a_iinc_5 (pc := 86) (v := nI (i + 1)) dX12_triesRound_86 (nI_add _ _) (by decide) (by first | rfl | trivial) ?_
              refine a_goto (pc := 89) (tgt := 15) dX12_triesRound_89 (by decide) ?_
              exact ih (i + 1) _ _ _ (by omega) (by omega) hm7 (by rw [q2]; exact hv7)
            · refine a_aloadn_0 (pc := 73) dX12_triesRound_73 ?_
              refine mg_31 hm1 rfl dX12_triesRound_74 ?_
              refine a_iload_4 (pc := 77) dX12_triesRound_77 ?_
              refine a_bipush (pc := 79) (v := nI 6) dX12_triesRound_79 (by decide) ?_
              refine ms_wax (j := (P (i + 1))) (x := 6) hm1 dX12_triesRound_81 (by omega) (fun h4 hm4 => ?_)
              have hv9 : HV (sWax (b, p1, t1, o) (va_up (mWax (b, p1, t1, o)) (P (i + 1)) 6)) (if cK (C i) (P (i + 1)) = false ∧ cW (C i) (P (i + 1)) < 6 then csW (C i) (P (i + 1)) 6 else C i) := by
                rw [if_pos ⟨c_58, by omega⟩]; exact HV_W hv1
              refine a_aloadn_0 (pc := 82) dX12_triesRound_82 ?_
              refine cv_X12_217 (pc := 83) rfl dX12_triesRound_83 hm4.2.2.1 (Nat.le_of_ble_eq_true rfl) ?_
              refine m_goesHour (by omega) hz hm4 hv9 ok9 hL (fun h7 p7 t7 hm7 hv7 hl7 => ?_)
              refine a_iinc_5 (pc := 86) (v := nI (i + 1)) dX12_triesRound_86 (nI_add _ _) (by decide) (by first | rfl | trivial) ?_
              refine a_goto (pc := 89) (tgt := 15) dX12_triesRound_89 (by decide) ?_
              exact ih (i + 1) _ _ _ (by omega) (by omega) hm7 (by rw [q2]; exact hv7)
  refine AM.of [some (.ref (gB G + 80)), some (.int (nI (r))), some (.int (nI (m))), some (.int (nI (m))), none, none] pnX12 (Nat.le_of_ble_eq_true rfl) (by simp [lsub, lvI, Value.category]) ?_
  refine a_iloadn_2 (pc := 0) dX12_triesRound_0 ?_
  refine a_iloadn_3 (pc := 1) dX12_triesRound_1 ?_
  refine n_icmp_ne (tgt := 141) dX12_triesRound_2 (by decide) (by omega) (by omega) (fun c_2 => by omega) (fun c_2 => ?_)
  refine a_aloadn_0 (pc := 5) dX12_triesRound_5 ?_
  refine cv_X12_220 (pc := 6) rfl dX12_triesRound_6 hm.2.2.1 (Nat.le_of_ble_eq_true rfl) ?_
  refine m_begins (by omega) hz hm hb (fun h1 t1 hm1 hv1 => ?_)
  refine a_iloadn_1 (pc := 9) dX12_triesRound_9 ?_
  refine a_topi (nI (P 0)) (by rw [hP.1]) ?_
  refine a_istore_4 (pc := 10) dX12_triesRound_10 (by decide) (by first | rfl | trivial) ?_
  refine a_iconst (pc := 12) (v := nI 0) dX12_triesRound_12 (by decide) ?_
  refine a_istore_5 (pc := 13) dX12_triesRound_13 (by decide) (by first | rfl | trivial) ?_
  have e0 := hP.2.1
  exact lp (m + 1) 0 _ _ _ (by omega) (by omega) hm1 (by rw [e0]; exact hv1)
