/-! the reference: drawn -/
def okDr (q : Nat) : Bool := inN 1 30 (q / 10000) && inN 1 24 (q / 100 % 100) && inN 0 12 (q % 100)
def spDrawn (F : Lf) (v : Cv) (sd nmo r : Int32) : Int32 := if inR 0 (nI 309999) nmo = true then (if okDr (iN nmo) = true then (if r = -1 then nI (sumN F v (iN nmo % 100) (iN nmo / 100 % 100) (fun u => ctn (cK u) 36) (iN nmo / 10000) sd) else if inR 0 (nI 35) r = true then nI (sumN F v (iN nmo % 100) (iN nmo / 100 % 100) (fun u => (cK u (iN r)).toNat) (iN nmo / 10000) sd) else -1) else -1) else -1
section DRs
variable {F : Lf} {v : Cv} {q : Nat} {sd nmo r : Int32}
theorem dr_neg (h : nmo < 0) : spDrawn F v sd nmo r = -1 := by
  have : inR 0 (nI 309999) nmo = false := by
    rw [Bool.eq_false_iff]
    intro z
    obtain ⟨n, hn, rfl⟩ := inR_of (by decide) z
    have h1 := Int32.lt_iff_toInt_lt.mp h
    rw [nI_toInt (by omega)] at h1
    have h0 : (0 : Int32).toInt = 0 := by decide
    omega
  rw [spDrawn, if_neg (by rw [this]; simp)]
theorem okDr_iff : okDr q = true ↔ (1 ≤ q / 10000 ∧ q / 10000 ≤ 30) ∧ (1 ≤ q / 100 % 100 ∧ q / 100 % 100 ≤ 24) ∧ q % 100 ≤ 12 := by
  simp [okDr, inN, and_assoc]
theorem dr_bad (hq : q < 2147483648) (h : ¬ okDr q = true) : spDrawn F v sd (nI q) r = -1 := by
  unfold spDrawn
  rw [iN_nI hq]
  split
  · first | rfl | rw [if_neg h]
  · rfl
theorem dr_room (h1 : ¬ r = -1) (h2 : inR 0 (nI 35) r = false) : spDrawn F v sd nmo r = -1 := by
  unfold spDrawn
  rw [if_neg h1, h2]
  split
  · split <;> rfl
  · rfl
theorem nI_nm1 {n : Nat} (h : n < 2147483648) : ¬ nI n = -1 := fun z => by
  have z2 := congrArg Int32.toInt z
  rw [nI_toInt h] at z2
  have : (-1 : Int32).toInt = -1 := by decide
  omega
theorem dr_ok (hq : q < 2147483648) (h : okDr q = true) : spDrawn F v sd (nI q) r = (if r = -1 then nI (sumN F v (q % 100) (q / 100 % 100) (fun u => ctn (cK u) 36) (q / 10000) sd) else if inR 0 (nI 35) r = true then nI (sumN F v (q % 100) (q / 100 % 100) (fun u => (cK u (iN r)).toNat) (q / 10000) sd) else -1) := by
  have h2 := okDr_iff.mp h
  unfold spDrawn
  rw [iN_nI hq, inR_nI (by decide) hq, if_pos (decide_eq_true (by omega)), if_pos h]
theorem sumN_st {mo m : Nat} {val : Cv → Nat} {na i : Nat} {z : Int32} (h : i < na) : sumN F v mo m val (na - i) z = val (nightC F mo m z v).2 + sumN F v mo m val (na - (i + 1)) (nightC F mo m z v).1 := by
  rw [show na - i = (na - (i + 1)) + 1 by omega, sumN]
theorem nightC_st {mo m j : Nat} {z : Int32} {u : Cv} (h : j < m) : nightC F mo (m - j) z u = nightC F mo (m - (j + 1)) (zn z) (chour F (if mth (zn z) < mo then csW u (rmz (zn z)) 0 else u)) := by
  rw [show m - j = (m - (j + 1)) + 1 by omega, nightC]
end DRs
set_option maxRecDepth 100000 in
set_option maxHeartbeats 4000000 in
theorem m_drawn {G : Cx} {d : Nat} {h h0 : List va_E} {b : MB} {p : MP} {t : MT} {o : MO} {Q : Option Value → List va_E → Prop} (hd : 70 ≤ d) (hz : gz G = false) (hm : MS G h0 h (b, p, t, o)) {v : Cv} {F : Lf} (hb : BV (b, p, t, o) v) (okv : okC v) (hL : LM b F) {sd nmo r : Int32} (hk : ∀ y h1 p1 t1, y = spDrawn F v sd nmo r → MS G h0 h1 (b, p1, t1, o) → Q (some (.int y)) h1) : AM G yX12_drawn cX12_drawn 9 (some .int) d 0 0 [.ref (gB G + 80), .int (sd), .int (nmo), .int (r)] h Q := by
  obtain ⟨d, rfl, he⟩ := dpos hd
  refine AM.of [some (.ref (gB G + 80)), some (.int (sd)), some (.int (nmo)), some (.int (r)), none, none, none, none, none] pnX12 (Nat.le_of_ble_eq_true rfl) (by simp [lsub, lvI, Value.category]) ?_
  refine a_iloadn_2 (pc := 0) dX12_drawn_0 ?_
  refine a_if_lt (pc := 1) (tgt := 66) dX12_drawn_1 (by decide) (fun c_1 => ?_) (fun c_1 => ?_)
  · refine a_iconst (pc := 66) (v := (-1)) dX12_drawn_66 (by decide) ?_
    exact a_iret (pc := 67) dX12_drawn_67 rfl (zf hz) (hk _ _ _ _ (dr_neg c_1).symm hm)
  · obtain ⟨q, hqb, rfl⟩ := nn_nI c_1
    refine a_iloadn_2 (pc := 4) dX12_drawn_4 ?_
    refine a_sipush (pc := 5) (v := nI 10000) dX12_drawn_5 (by decide) ?_
    refine n_idiv dX12_drawn_8 (by omega) (by decide) (by decide) ?_
    refine n_i2l dX12_drawn_9 (by omega) ?_
    refine a_lconst (pc := 10) (v := 1) dX12_drawn_10 (by decide) ?_
    refine a_ldc2 (pc := 11) dX12_drawn_11 w_1374 ?_
    refine cs_X12_96 (pc := 14) rfl dX12_drawn_14 (Nat.le_of_ble_eq_true rfl) ?_
    refine m_within (by omega) hz ?_
    refine a_topi (bI (inN 1 30 (q / 10000))) (congrArg bI (inL_N (lo := 1) (hi := 30) (by decide) (by decide) (by omega))) ?_
    refine b_if_eq (pc := 17) (tgt := 66) dX12_drawn_17 (by decide) (fun c_17 => ?_) (fun c_17 => ?_)
    · refine a_iconst (pc := 66) (v := (-1)) dX12_drawn_66 (by decide) ?_
      exact a_iret (pc := 67) dX12_drawn_67 rfl (zf hz) (hk _ _ _ _ (dr_bad hqb (fun z => inN_f c_17 (by have := okDr_iff.mp z; omega))).symm hm)
    · refine a_iloadn_2 (pc := 20) dX12_drawn_20 ?_
      refine a_bipush (pc := 21) (v := nI 100) dX12_drawn_21 (by decide) ?_
      refine n_idiv dX12_drawn_23 (by omega) (by decide) (by decide) ?_
      refine a_bipush (pc := 24) (v := nI 100) dX12_drawn_24 (by decide) ?_
      refine n_irem dX12_drawn_26 (by omega) (by decide) (by decide) ?_
      refine n_i2l dX12_drawn_27 (by omega) ?_
      refine a_lconst (pc := 28) (v := 1) dX12_drawn_28 (by decide) ?_
      refine a_ldc2 (pc := 29) dX12_drawn_29 w_1294 ?_
      refine cs_X12_96 (pc := 32) rfl dX12_drawn_32 (Nat.le_of_ble_eq_true rfl) ?_
      refine m_within (by omega) hz ?_
      refine a_topi (bI (inN 1 24 ((q / 100) % 100))) (congrArg bI (inL_N (lo := 1) (hi := 24) (by decide) (by decide) (by omega))) ?_
      refine b_if_eq (pc := 35) (tgt := 66) dX12_drawn_35 (by decide) (fun c_35 => ?_) (fun c_35 => ?_)
      · refine a_iconst (pc := 66) (v := (-1)) dX12_drawn_66 (by decide) ?_
        exact a_iret (pc := 67) dX12_drawn_67 rfl (zf hz) (hk _ _ _ _ (dr_bad hqb (fun z => inN_f c_35 (by have := okDr_iff.mp z; omega))).symm hm)
      · refine a_iloadn_2 (pc := 38) dX12_drawn_38 ?_
        refine a_bipush (pc := 39) (v := nI 100) dX12_drawn_39 (by decide) ?_
        refine n_irem dX12_drawn_41 (by omega) (by decide) (by decide) ?_
        refine n_i2l dX12_drawn_42 (by omega) ?_
        refine a_lconst (pc := 43) (v := 0) dX12_drawn_43 (by decide) ?_
        refine a_ldc2 (pc := 44) dX12_drawn_44 w_1304 ?_
        refine cs_X12_96 (pc := 47) rfl dX12_drawn_47 (Nat.le_of_ble_eq_true rfl) ?_
        refine m_within (by omega) hz ?_
        refine a_topi (bI (inN 0 12 (q % 100))) (congrArg bI (inL_N (lo := 0) (hi := 12) (by decide) (by decide) (by omega))) ?_
        refine b_if_eq (pc := 50) (tgt := 66) dX12_drawn_50 (by decide) (fun c_50 => ?_) (fun c_50 => ?_)
        · refine a_iconst (pc := 66) (v := (-1)) dX12_drawn_66 (by decide) ?_
          exact a_iret (pc := 67) dX12_drawn_67 rfl (zf hz) (hk _ _ _ _ (dr_bad hqb (fun z => inN_f c_50 (by have := okDr_iff.mp z; omega))).symm hm)
        · refine a_iloadn_3 (pc := 53) dX12_drawn_53 ?_
          refine a_iconst (pc := 54) (v := (-1)) dX12_drawn_54 (by decide) ?_
          refine a_icmp_eq (pc := 55) (tgt := 68) dX12_drawn_55 (by decide) (fun c_55 => ?_) (fun c_55 => ?_)
          · subst c_55
            refine a_iloadn_1 (pc := 68) dX12_drawn_68 ?_
            refine a_istore_4 (pc := 69) dX12_drawn_69 (by decide) (by first | rfl | trivial) ?_
            refine a_iconst (pc := 71) (v := nI 0) dX12_drawn_71 (by decide) ?_
            refine a_istore_5 (pc := 72) dX12_drawn_72 (by decide) (by first | rfl | trivial) ?_
            refine a_iconst (pc := 74) (v := nI 0) dX12_drawn_74 (by decide) ?_
            refine a_istore_6 (pc := 75) dX12_drawn_75 (by decide) (by first | rfl | trivial) ?_
            refine a_iconst (pc := 77) (v := nI 0) dX12_drawn_77 (by decide) ?_
            refine a_istore_7 (pc := 78) dX12_drawn_78 (by decide) (by first | rfl | trivial) ?_
            have ho9 : okDr q = true := okDr_iff.mpr ⟨inN_t c_17, inN_t c_35, (inN_t c_50).2⟩
            have hr9 := okDr_iff.mp ho9
            have hsp := dr_ok (F := F) (v := v) (sd := sd) (r := ((-1))) hqb ho9
            rw [if_pos rfl] at hsp
            obtain ⟨na, hna⟩ : ∃ na, na = q / 10000 := ⟨_, rfl⟩
            obtain ⟨m, hm9⟩ : ∃ m, m = q / 100 % 100 := ⟨_, rfl⟩
            obtain ⟨mo, hmo⟩ : ∃ mo, mo = q % 100 := ⟨_, rfl⟩
            rw [← hna, ← hm9, ← hmo] at hsp
            obtain ⟨SA, hSA⟩ : ∃ SA, SA = sumN F v mo m (fun u => ctn (cK u) 36) (na) sd := ⟨_, rfl⟩
            rw [← hSA] at hsp
            have lp : ∀ (n i su sr : Nat) (h1 : List va_E) (p1 : MP) (t1 : MT) (z : Int32), na - i < n → i ≤ na → su + sumN F v mo m (fun u => ctn (cK u) 36) (na - i) z = SA → MS G h0 h1 (b, p1, t1, o) → AW G yX12_drawn cX12_drawn 9 (some .int) (rmx (d + 1) 0 0) (ZQ G 0 0 (h.length + 0) Q) 0 0 80 [some (.ref (gB G + 80)), some (.int (sd)), some (.int (nI (q))), some (.int ((-1))), some (.int (z)), some (.int (nI (su))), some (.int (nI (sr))), some (.int (nI (i))), none] [] h1 := by
              intro n
              induction n with
              | zero => intro i su sr h1 p1 t1 z hn; exact absurd hn (Nat.not_lt_zero _)
              | succ n ih =>
                intro i su sr h1 p1 t1 z hn hi hA hm1
                refine a_iload_7 (pc := 80) dX12_drawn_80 ?_
                refine a_iloadn_2 (pc := 82) dX12_drawn_82 ?_
                refine a_sipush (pc := 83) (v := nI 10000) dX12_drawn_83 (by decide) ?_
                refine n_idiv dX12_drawn_86 (by omega) (by decide) (by decide) ?_
                refine n_icmp_ge (tgt := 194) dX12_drawn_87 (by decide) (by omega) (by omega) (fun c_87 => ?_) (fun c_87 => ?_)
                · refine a_iloadn_3 (pc := 194) dX12_drawn_194 ?_
                  refine a_if_ge (pc := 195) (tgt := 203) dX12_drawn_195 (by decide) (fun c_195 => absurd c_195 (by decide)) (fun c_195 => ?_)
                  refine a_iload_5 (pc := 198) dX12_drawn_198 ?_
                  refine a_goto (pc := 200) (tgt := 205) dX12_drawn_200 (by decide) ?_
                  exact a_iret (pc := 205) dX12_drawn_205 rfl (zf hz) (hk _ _ _ _ (by rw [hsp, ← hA, Nat.sub_eq_zero_of_le (by omega)]; rfl) hm1)
                · refine a_aloadn_0 (pc := 90) dX12_drawn_90 ?_
                  refine cv_X12_220 (pc := 91) rfl dX12_drawn_91 hm1.2.2.1 (Nat.le_of_ble_eq_true rfl) ?_
                  refine m_begins (by omega) hz hm1 hb (fun h4 t4 hm4 hv4 => ?_)
                  refine a_iconst (pc := 94) (v := nI 0) dX12_drawn_94 (by decide) ?_
                  refine a_istore_8 (pc := 95) dX12_drawn_95 (by decide) (by first | rfl | trivial) ?_
                  obtain ⟨⟨Z, U⟩, hZU⟩ : ∃ x, nightC F mo m z v = x := ⟨_, rfl⟩
                  have lq : ∀ (m2 j : Nat) (h1 : List va_E) (p1 : MP) (t1 : MT) (y : Int32) (u : Cv), m - j < m2 → j ≤ m → nightC F mo (m - j) y u = (Z, U) → okC u → MS G h0 h1 (b, p1, t1, o) → HV (b, p1, t1, o) u → AW G yX12_drawn cX12_drawn 9 (some .int) (rmx (d + 1) 0 0) (ZQ G 0 0 (h.length + 0) Q) 0 0 97 [some (.ref (gB G + 80)), some (.int (sd)), some (.int (nI (q))), some (.int ((-1))), some (.int (y)), some (.int (nI (su))), some (.int (nI (sr))), some (.int (nI (i))), some (.int (nI (j)))] [] h1 := by
                    intro m2
                    induction m2 with
                    | zero => intro j h1 p1 t1 y u hn; exact absurd hn (Nat.not_lt_zero _)
                    | succ m2 iq =>
                      intro j h1 p1 t1 y u hn2 hj hN oku hm1 hv1
                      have ok9 : okC (if mth (zn y) < mo then csW u (rmz (zn y)) 0 else u) := by
                        split
                        · exact okC_W oku (rmz_lt _) (by omega)
                        · exact oku
                      refine a_iload_8 (pc := 97) dX12_drawn_97 ?_
                      refine a_iloadn_2 (pc := 99) dX12_drawn_99 ?_
                      refine a_bipush (pc := 100) (v := nI 100) dX12_drawn_100 (by decide) ?_
                      refine n_idiv dX12_drawn_102 (by omega) (by decide) (by decide) ?_
                      refine a_bipush (pc := 103) (v := nI 100) dX12_drawn_103 (by decide) ?_
                      refine n_irem dX12_drawn_105 (by omega) (by decide) (by decide) ?_
                      refine n_icmp_ge (tgt := 160) dX12_drawn_106 (by decide) (by omega) (by omega) (fun c_106 => ?_) (fun c_106 => ?_)
                      · have jm : j = m := by omega
                        rw [jm, Nat.sub_self] at hN
                        have hN : (y, u) = (Z, U) := hN
                        cases hN
                        refine a_iload_5 (pc := 160) dX12_drawn_160 ?_
                        refine a_aloadn_0 (pc := 162) dX12_drawn_162 ?_
                        refine cv_X12_232 (pc := 163) rfl dX12_drawn_163 hm1.2.2.1 (Nat.le_of_ble_eq_true rfl) ?_
                        refine m_darkMany (by omega) hz hm1 hv1 ?_
                        refine n_iadd dX12_drawn_166 ?_
                        refine a_istore_5 (pc := 167) dX12_drawn_167 (by decide) (by first | rfl | trivial) ?_
                        refine a_iload_6 (pc := 169) dX12_drawn_169 ?_
                        refine a_iloadn_3 (pc := 171) dX12_drawn_171 ?_
                        refine a_if_lt (pc := 172) (tgt := 184) dX12_drawn_172 (by decide) (fun c_172 => ?_) (fun c_172 => absurd c_172 (by decide))
                        refine a_iconst (pc := 184) (v := nI 0) dX12_drawn_184 (by decide) ?_
                        refine n_iadd dX12_drawn_185 ?_
                        refine a_istore_6 (pc := 186) dX12_drawn_186 (by decide) (by first | rfl | trivial) ?_
                        refine a_iinc_7 (pc := 188) (v := nI (i + 1)) dX12_drawn_188 (nI_add _ _) (by decide) (by first | rfl | trivial) ?_
                        refine a_goto (pc := 191) (tgt := 80) dX12_drawn_191 (by decide) ?_
                        refine a_ls (ls' := [some _, some _, some _, some _, some _, some _, some _, some _, none]) ⟨rfl, rfl, rfl, rfl, rfl, rfl, rfl, rfl, trivial⟩ ?_
                        exact ih (i + 1) _ _ _ _ _ _ (by omega) (by omega) (by rw [sumN_st (by omega), hZU] at hA; dsimp only at hA; omega) hm1
                      · refine a_iload_4 (pc := 109) dX12_drawn_109 ?_
                        refine a_ldcw (pc := 111) dX12_drawn_111 w_1375 ?_
                        refine a_imul (pc := 114) dX12_drawn_114 ?_
                        refine a_sipush (pc := 115) (v := nI 12345) dX12_drawn_115 (by decide) ?_
                        refine a_iadd (pc := 118) dX12_drawn_118 ?_
                        refine a_topi (zn y) rfl ?_
                        
                        refine a_istore_4 (pc := 119) dX12_drawn_119 (by decide) (by first | rfl | trivial) ?_
                        refine a_iload_4 (pc := 121) dX12_drawn_121 ?_
                        refine a_bipush (pc := 123) (v := nI 16) dX12_drawn_123 (by decide) ?_
                        refine a_iushr (pc := 125) dX12_drawn_125 ?_
                        refine a_topi (nI ((zn y).toBitVec.toNat / 65536)) (ush16 _) ?_
                        have z9 : (zn y).toBitVec.toNat < 4294967296 := (zn y).toBitVec.isLt
                        refine a_bipush (pc := 126) (v := nI 12) dX12_drawn_126 (by decide) ?_
                        refine n_irem dX12_drawn_128 (by omega) (by decide) (by decide) ?_
                        refine a_topi (nI (mth (zn y))) rfl ?_
                        have m9 := mth_lt (zn y)
                        refine a_iloadn_2 (pc := 129) dX12_drawn_129 ?_
                        refine a_bipush (pc := 130) (v := nI 100) dX12_drawn_130 (by decide) ?_
                        refine n_irem dX12_drawn_132 (by omega) (by decide) (by decide) ?_
                        refine n_icmp_ge (tgt := 150) dX12_drawn_133 (by decide) (by omega) (by omega) (fun c_133 => ?_) (fun c_133 => ?_)
                        · have hv9 : HV (b, p1, t1, o) (if mth (zn y) < mo then csW u (rmz (zn y)) 0 else u) := by
                            rw [if_neg (by omega)]; exact hv1
                          refine a_aloadn_0 (pc := 150) dX12_drawn_150 ?_
                          refine cv_X12_217 (pc := 151) rfl dX12_drawn_151 hm1.2.2.1 (Nat.le_of_ble_eq_true rfl) ?_
                          refine m_goesHour (by omega) hz hm1 hv9 ok9 hL (fun h7 p7 t7 hm7 hv7 hl7 => ?_)
                          refine a_iinc_8 (pc := 154) (v := nI (j + 1)) dX12_drawn_154 (nI_add _ _) (by decide) (by first | rfl | trivial) ?_
                          refine a_goto (pc := 157) (tgt := 97) dX12_drawn_157 (by decide) ?_
                          exact iq (j + 1) _ _ _ (zn y) _ (by omega) (by omega) (by rw [← nightC_st (by omega)]; exact hN) (okC_hour ok9) hm7 hv7
                        · refine a_aloadn_0 (pc := 136) dX12_drawn_136 ?_
                          refine mg_31 hm1 rfl dX12_drawn_137 ?_
                          refine a_iload_4 (pc := 140) dX12_drawn_140 ?_
                          refine a_bipush (pc := 142) (v := nI 8) dX12_drawn_142 (by decide) ?_
                          refine a_iushr (pc := 144) dX12_drawn_144 ?_
                          refine a_topi (nI ((zn y).toBitVec.toNat / 256)) (ush8 _) ?_
                          refine a_bipush (pc := 145) (v := nI 36) dX12_drawn_145 (by decide) ?_
                          refine n_irem dX12_drawn_147 (by omega) (by decide) (by decide) ?_
                          refine a_topi (nI (rmz (zn y))) rfl ?_
                          have r9 := rmz_lt (zn y)
                          refine a_iconst (pc := 148) (v := nI 0) dX12_drawn_148 (by decide) ?_
                          refine ms_wax (j := (rmz (zn y))) (x := 0) hm1 dX12_drawn_149 (by omega) (fun h10 hm10 => ?_)
                          have hv9 : HV (sWax (b, p1, t1, o) (va_up (mWax (b, p1, t1, o)) (rmz (zn y)) 0)) (if mth (zn y) < mo then csW u (rmz (zn y)) 0 else u) := by
                            rw [if_pos (by omega)]; exact HV_W hv1
                          refine a_aloadn_0 (pc := 150) dX12_drawn_150 ?_
                          refine cv_X12_217 (pc := 151) rfl dX12_drawn_151 hm10.2.2.1 (Nat.le_of_ble_eq_true rfl) ?_
                          refine m_goesHour (by omega) hz hm10 hv9 ok9 hL (fun h7 p7 t7 hm7 hv7 hl7 => ?_)
                          refine a_iinc_8 (pc := 154) (v := nI (j + 1)) dX12_drawn_154 (nI_add _ _) (by decide) (by first | rfl | trivial) ?_
                          refine a_goto (pc := 157) (tgt := 97) dX12_drawn_157 (by decide) ?_
                          exact iq (j + 1) _ _ _ (zn y) _ (by omega) (by omega) (by rw [← nightC_st (by omega)]; exact hN) (okC_hour ok9) hm7 hv7
                  exact lq (m + 1) 0 _ _ _ z v (by omega) (by omega) hZU okv hm4 hv4
            exact lp (na + 1) 0 0 0 _ _ _ sd (by omega) (by omega) (by rw [hSA]; exact Nat.zero_add _) hm
          · refine a_iloadn_3 (pc := 58) dX12_drawn_58 ?_
            refine a_i2l (pc := 59) dX12_drawn_59 ?_
            refine cs_X12_106 (pc := 60) rfl dX12_drawn_60 (Nat.le_of_ble_eq_true rfl) ?_
            refine m_isRoom (by omega) hz ?_
            refine a_topi (bI (inR 0 (nI 35) r)) (congrArg bI (inL_R 0 35 (by decide) (by decide) r)) ?_
            refine b_if_ne (pc := 63) (tgt := 68) dX12_drawn_63 (by decide) (fun c_63 => ?_) (fun c_63 => ?_)
            · obtain ⟨n_r, h_r, rfl⟩ := inR_of (by decide) c_63
              have i_r : iN (nI n_r) = n_r := iN_nI (by omega)
              refine a_iloadn_1 (pc := 68) dX12_drawn_68 ?_
              refine a_istore_4 (pc := 69) dX12_drawn_69 (by decide) (by first | rfl | trivial) ?_
              refine a_iconst (pc := 71) (v := nI 0) dX12_drawn_71 (by decide) ?_
              refine a_istore_5 (pc := 72) dX12_drawn_72 (by decide) (by first | rfl | trivial) ?_
              refine a_iconst (pc := 74) (v := nI 0) dX12_drawn_74 (by decide) ?_
              refine a_istore_6 (pc := 75) dX12_drawn_75 (by decide) (by first | rfl | trivial) ?_
              refine a_iconst (pc := 77) (v := nI 0) dX12_drawn_77 (by decide) ?_
              refine a_istore_7 (pc := 78) dX12_drawn_78 (by decide) (by first | rfl | trivial) ?_
              have ho9 : okDr q = true := okDr_iff.mpr ⟨inN_t c_17, inN_t c_35, (inN_t c_50).2⟩
              have hr9 := okDr_iff.mp ho9
              have hsp := dr_ok (F := F) (v := v) (sd := sd) (r := nI (n_r)) hqb ho9
              rw [if_neg (nI_nm1 (by omega)), if_pos (by assumption), iN_nI (by omega)] at hsp
              obtain ⟨na, hna⟩ : ∃ na, na = q / 10000 := ⟨_, rfl⟩
              obtain ⟨m, hm9⟩ : ∃ m, m = q / 100 % 100 := ⟨_, rfl⟩
              obtain ⟨mo, hmo⟩ : ∃ mo, mo = q % 100 := ⟨_, rfl⟩
              rw [← hna, ← hm9, ← hmo] at hsp
              obtain ⟨SA, hSA⟩ : ∃ SA, SA = sumN F v mo m (fun u => ctn (cK u) 36) (na) sd := ⟨_, rfl⟩
              obtain ⟨SB, hSB⟩ : ∃ SB, SB = sumN F v mo m (fun u => (cK u n_r).toNat) (na) sd := ⟨_, rfl⟩
              rw [← hSB] at hsp
              have lp : ∀ (n i su sr : Nat) (h1 : List va_E) (p1 : MP) (t1 : MT) (z : Int32), na - i < n → i ≤ na → su + sumN F v mo m (fun u => ctn (cK u) 36) (na - i) z = SA → sr + sumN F v mo m (fun u => (cK u n_r).toNat) (na - i) z = SB → MS G h0 h1 (b, p1, t1, o) → AW G yX12_drawn cX12_drawn 9 (some .int) (rmx (d + 1) 0 0) (ZQ G 0 0 (h.length + 0) Q) 0 0 80 [some (.ref (gB G + 80)), some (.int (sd)), some (.int (nI (q))), some (.int (nI (n_r))), some (.int (z)), some (.int (nI (su))), some (.int (nI (sr))), some (.int (nI (i))), none] [] h1 := by
                intro n
                induction n with
                | zero => intro i su sr h1 p1 t1 z hn; exact absurd hn (Nat.not_lt_zero _)
                | succ n ih =>
                  intro i su sr h1 p1 t1 z hn hi hA hB hm1
                  refine a_iload_7 (pc := 80) dX12_drawn_80 ?_
                  refine a_iloadn_2 (pc := 82) dX12_drawn_82 ?_
                  refine a_sipush (pc := 83) (v := nI 10000) dX12_drawn_83 (by decide) ?_
                  refine n_idiv dX12_drawn_86 (by omega) (by decide) (by decide) ?_
                  refine n_icmp_ge (tgt := 194) dX12_drawn_87 (by decide) (by omega) (by omega) (fun c_87 => ?_) (fun c_87 => ?_)
                  · refine a_iloadn_3 (pc := 194) dX12_drawn_194 ?_
                    refine n_if_ge (tgt := 203) dX12_drawn_195 (by decide) (by omega) ?_
                    refine a_iload_6 (pc := 203) dX12_drawn_203 ?_
                    exact a_iret (pc := 205) dX12_drawn_205 rfl (zf hz) (hk _ _ _ _ (by rw [hsp, ← hB, Nat.sub_eq_zero_of_le (by omega)]; rfl) hm1)
                  · refine a_aloadn_0 (pc := 90) dX12_drawn_90 ?_
                    refine cv_X12_220 (pc := 91) rfl dX12_drawn_91 hm1.2.2.1 (Nat.le_of_ble_eq_true rfl) ?_
                    refine m_begins (by omega) hz hm1 hb (fun h4 t4 hm4 hv4 => ?_)
                    refine a_iconst (pc := 94) (v := nI 0) dX12_drawn_94 (by decide) ?_
                    refine a_istore_8 (pc := 95) dX12_drawn_95 (by decide) (by first | rfl | trivial) ?_
                    obtain ⟨⟨Z, U⟩, hZU⟩ : ∃ x, nightC F mo m z v = x := ⟨_, rfl⟩
                    have lq : ∀ (m2 j : Nat) (h1 : List va_E) (p1 : MP) (t1 : MT) (y : Int32) (u : Cv), m - j < m2 → j ≤ m → nightC F mo (m - j) y u = (Z, U) → okC u → MS G h0 h1 (b, p1, t1, o) → HV (b, p1, t1, o) u → AW G yX12_drawn cX12_drawn 9 (some .int) (rmx (d + 1) 0 0) (ZQ G 0 0 (h.length + 0) Q) 0 0 97 [some (.ref (gB G + 80)), some (.int (sd)), some (.int (nI (q))), some (.int (nI (n_r))), some (.int (y)), some (.int (nI (su))), some (.int (nI (sr))), some (.int (nI (i))), some (.int (nI (j)))] [] h1 := by
                      intro m2
                      induction m2 with
                      | zero => intro j h1 p1 t1 y u hn; exact absurd hn (Nat.not_lt_zero _)
                      | succ m2 iq =>
                        intro j h1 p1 t1 y u hn2 hj hN oku hm1 hv1
                        have ok9 : okC (if mth (zn y) < mo then csW u (rmz (zn y)) 0 else u) := by
                          split
                          · exact okC_W oku (rmz_lt _) (by omega)
                          · exact oku
                        refine a_iload_8 (pc := 97) dX12_drawn_97 ?_
                        refine a_iloadn_2 (pc := 99) dX12_drawn_99 ?_
                        refine a_bipush (pc := 100) (v := nI 100) dX12_drawn_100 (by decide) ?_
                        refine n_idiv dX12_drawn_102 (by omega) (by decide) (by decide) ?_
                        refine a_bipush (pc := 103) (v := nI 100) dX12_drawn_103 (by decide) ?_
                        refine n_irem dX12_drawn_105 (by omega) (by decide) (by decide) ?_
                        refine n_icmp_ge (tgt := 160) dX12_drawn_106 (by decide) (by omega) (by omega) (fun c_106 => ?_) (fun c_106 => ?_)
                        · have jm : j = m := by omega
                          rw [jm, Nat.sub_self] at hN
                          have hN : (y, u) = (Z, U) := hN
                          cases hN
                          refine a_iload_5 (pc := 160) dX12_drawn_160 ?_
                          refine a_aloadn_0 (pc := 162) dX12_drawn_162 ?_
                          refine cv_X12_232 (pc := 163) rfl dX12_drawn_163 hm1.2.2.1 (Nat.le_of_ble_eq_true rfl) ?_
                          refine m_darkMany (by omega) hz hm1 hv1 ?_
                          refine n_iadd dX12_drawn_166 ?_
                          refine a_istore_5 (pc := 167) dX12_drawn_167 (by decide) (by first | rfl | trivial) ?_
                          refine a_iload_6 (pc := 169) dX12_drawn_169 ?_
                          refine a_iloadn_3 (pc := 171) dX12_drawn_171 ?_
                          refine n_if_lt (tgt := 184) dX12_drawn_172 (by decide) (by omega) ?_
                          refine a_aloadn_0 (pc := 175) dX12_drawn_175 ?_
                          refine mg_34 hm1 rfl dX12_drawn_176 ?_
                          refine a_iloadn_3 (pc := 179) dX12_drawn_179 ?_
                          refine ml_isDark (x := (cK U n_r).toNat) hm1 dX12_drawn_180 (by omega) (hv1.1 n_r (by omega)).2.1 ?_
                          refine a_goto (pc := 181) (tgt := 185) dX12_drawn_181 (by decide) ?_
                          refine n_iadd dX12_drawn_185 ?_
                          refine a_istore_6 (pc := 186) dX12_drawn_186 (by decide) (by first | rfl | trivial) ?_
                          refine a_iinc_7 (pc := 188) (v := nI (i + 1)) dX12_drawn_188 (nI_add _ _) (by decide) (by first | rfl | trivial) ?_
                          refine a_goto (pc := 191) (tgt := 80) dX12_drawn_191 (by decide) ?_
                          refine a_ls (ls' := [some _, some _, some _, some _, some _, some _, some _, some _, none]) ⟨rfl, rfl, rfl, rfl, rfl, rfl, rfl, rfl, trivial⟩ ?_
                          exact ih (i + 1) _ _ _ _ _ _ (by omega) (by omega) (by rw [sumN_st (by omega), hZU] at hA; dsimp only at hA; omega) (by rw [sumN_st (by omega), hZU] at hB; dsimp only at hB; omega) hm1
                        · refine a_iload_4 (pc := 109) dX12_drawn_109 ?_
                          refine a_ldcw (pc := 111) dX12_drawn_111 w_1375 ?_
                          refine a_imul (pc := 114) dX12_drawn_114 ?_
                          refine a_sipush (pc := 115) (v := nI 12345) dX12_drawn_115 (by decide) ?_
                          refine a_iadd (pc := 118) dX12_drawn_118 ?_
                          refine a_topi (zn y) rfl ?_
                          
                          refine a_istore_4 (pc := 119) dX12_drawn_119 (by decide) (by first | rfl | trivial) ?_
                          refine a_iload_4 (pc := 121) dX12_drawn_121 ?_
                          refine a_bipush (pc := 123) (v := nI 16) dX12_drawn_123 (by decide) ?_
                          refine a_iushr (pc := 125) dX12_drawn_125 ?_
                          refine a_topi (nI ((zn y).toBitVec.toNat / 65536)) (ush16 _) ?_
                          have z9 : (zn y).toBitVec.toNat < 4294967296 := (zn y).toBitVec.isLt
                          refine a_bipush (pc := 126) (v := nI 12) dX12_drawn_126 (by decide) ?_
                          refine n_irem dX12_drawn_128 (by omega) (by decide) (by decide) ?_
                          refine a_topi (nI (mth (zn y))) rfl ?_
                          have m9 := mth_lt (zn y)
                          refine a_iloadn_2 (pc := 129) dX12_drawn_129 ?_
                          refine a_bipush (pc := 130) (v := nI 100) dX12_drawn_130 (by decide) ?_
                          refine n_irem dX12_drawn_132 (by omega) (by decide) (by decide) ?_
                          refine n_icmp_ge (tgt := 150) dX12_drawn_133 (by decide) (by omega) (by omega) (fun c_133 => ?_) (fun c_133 => ?_)
                          · have hv9 : HV (b, p1, t1, o) (if mth (zn y) < mo then csW u (rmz (zn y)) 0 else u) := by
                              rw [if_neg (by omega)]; exact hv1
                            refine a_aloadn_0 (pc := 150) dX12_drawn_150 ?_
                            refine cv_X12_217 (pc := 151) rfl dX12_drawn_151 hm1.2.2.1 (Nat.le_of_ble_eq_true rfl) ?_
                            refine m_goesHour (by omega) hz hm1 hv9 ok9 hL (fun h7 p7 t7 hm7 hv7 hl7 => ?_)
                            refine a_iinc_8 (pc := 154) (v := nI (j + 1)) dX12_drawn_154 (nI_add _ _) (by decide) (by first | rfl | trivial) ?_
                            refine a_goto (pc := 157) (tgt := 97) dX12_drawn_157 (by decide) ?_
                            exact iq (j + 1) _ _ _ (zn y) _ (by omega) (by omega) (by rw [← nightC_st (by omega)]; exact hN) (okC_hour ok9) hm7 hv7
                          · refine a_aloadn_0 (pc := 136) dX12_drawn_136 ?_
                            refine mg_31 hm1 rfl dX12_drawn_137 ?_
                            refine a_iload_4 (pc := 140) dX12_drawn_140 ?_
                            refine a_bipush (pc := 142) (v := nI 8) dX12_drawn_142 (by decide) ?_
                            refine a_iushr (pc := 144) dX12_drawn_144 ?_
                            refine a_topi (nI ((zn y).toBitVec.toNat / 256)) (ush8 _) ?_
                            refine a_bipush (pc := 145) (v := nI 36) dX12_drawn_145 (by decide) ?_
                            refine n_irem dX12_drawn_147 (by omega) (by decide) (by decide) ?_
                            refine a_topi (nI (rmz (zn y))) rfl ?_
                            have r9 := rmz_lt (zn y)
                            refine a_iconst (pc := 148) (v := nI 0) dX12_drawn_148 (by decide) ?_
                            refine ms_wax (j := (rmz (zn y))) (x := 0) hm1 dX12_drawn_149 (by omega) (fun h10 hm10 => ?_)
                            have hv9 : HV (sWax (b, p1, t1, o) (va_up (mWax (b, p1, t1, o)) (rmz (zn y)) 0)) (if mth (zn y) < mo then csW u (rmz (zn y)) 0 else u) := by
                              rw [if_pos (by omega)]; exact HV_W hv1
                            refine a_aloadn_0 (pc := 150) dX12_drawn_150 ?_
                            refine cv_X12_217 (pc := 151) rfl dX12_drawn_151 hm10.2.2.1 (Nat.le_of_ble_eq_true rfl) ?_
                            refine m_goesHour (by omega) hz hm10 hv9 ok9 hL (fun h7 p7 t7 hm7 hv7 hl7 => ?_)
                            refine a_iinc_8 (pc := 154) (v := nI (j + 1)) dX12_drawn_154 (nI_add _ _) (by decide) (by first | rfl | trivial) ?_
                            refine a_goto (pc := 157) (tgt := 97) dX12_drawn_157 (by decide) ?_
                            exact iq (j + 1) _ _ _ (zn y) _ (by omega) (by omega) (by rw [← nightC_st (by omega)]; exact hN) (okC_hour ok9) hm7 hv7
                    exact lq (m + 1) 0 _ _ _ z v (by omega) (by omega) hZU okv hm4 hv4
              exact lp (na + 1) 0 0 0 _ _ _ sd (by omega) (by omega) (by rw [hSA]; exact Nat.zero_add _) (by rw [hSB]; exact Nat.zero_add _) hm
            · refine a_iconst (pc := 66) (v := (-1)) dX12_drawn_66 (by decide) ?_
              exact a_iret (pc := 67) dX12_drawn_67 rfl (zf hz) (hk _ _ _ _ (dr_room c_55 c_63).symm hm)
