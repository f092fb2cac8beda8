/-! the reference: byTurns -/
theorem inN_t {lo hi n : Nat} (h : inN lo hi n = true) : lo ≤ n ∧ n ≤ hi := by simpa [inN] using h
theorem inN_f {lo hi n : Nat} (h : inN lo hi n = false) : ¬ (lo ≤ n ∧ n ≤ hi) := fun q => by
  have : inN lo hi n = true := by simpa [inN] using q
  rw [this] at h; cases h
theorem nn_nI {x : Int32} (h : ¬ x < 0) : ∃ q, q < 2147483648 ∧ x = nI q := by
  have h1 : ¬ x.toInt < (0 : Int32).toInt := fun z => h (Int32.lt_iff_toInt_lt.mpr z)
  have h0 : (0 : Int32).toInt = 0 := by decide
  have h2 := Int32.toInt_lt x
  refine ⟨x.toInt.toNat, by omega, Int32.toInt_inj.mp ?_⟩
  rw [nI_toInt (by omega)]
  omega
section BTs
variable {F : Lf} {v : Cv} {q : Nat} {ynt w : Int32}
theorem bt_neg (h : ynt < 0) : spByTurns F v ynt w = -1 := by
  have : inR 0 (nI 599) ynt = false := by
    rw [Bool.eq_false_iff]
    intro z
    obtain ⟨n, hn, rfl⟩ := inR_of (by decide) z
    have h1 := Int32.lt_iff_toInt_lt.mp h
    rw [nI_toInt (by omega)] at h1
    have h0 : (0 : Int32).toInt = 0 := by decide
    omega
  rw [spByTurns, if_neg (by rw [this]; simp)]
theorem bt_bad (hq : q < 2147483648) (h : ¬ (q ≤ 599 ∧ 1 ≤ q / 10 % 10 ∧ q / 10 % 10 ≤ 3 ∧ q % 10 ≤ 6) ∨ inR 0 (nI 1) w = false) : spByTurns F v (nI q) w = -1 := by
  unfold spByTurns
  rw [iN_nI hq, inR_nI (by decide) hq]
  by_cases c1 : q ≤ 599
  · rw [if_pos (decide_eq_true c1)]
    cases c2 : inR 0 (nI 1) w with
    | false => rw [if_neg (by simp)]
    | true =>
      rw [if_pos rfl]
      cases c3 : inN 1 3 (q / 10 % 10) with
      | false => rw [if_neg (by simp)]
      | true =>
        rw [if_pos rfl]
        cases c4 : inN 0 6 (q % 10) with
        | false => rw [if_neg (by simp)]
        | true =>
          exfalso
          rcases h with h | h
          · have a3 := inN_t c3
            have a4 := inN_t c4
            omega
          · rw [c2] at h; cases h
  · rw [if_neg (by rw [decide_eq_false c1]; simp)]
theorem bt_ok (hq : q < 2147483648) (h : q ≤ 599 ∧ 1 ≤ q / 10 % 10 ∧ q / 10 % 10 ≤ 3 ∧ q % 10 ≤ 6) (hw : inR 0 (nI 1) w = true) : spByTurns F v (nI q) w = if iN w = 0 then nI (outT F (6 * (q / 100)) (q % 10) (q / 10 % 10) true v) else nI (fstX F (6 * (q / 100)) (q % 10) (q / 10 % 10) v) := by
  unfold spByTurns
  rw [iN_nI hq, inR_nI (by decide) hq, if_pos (decide_eq_true h.1), if_pos hw, if_pos (by simp [inN]; omega), if_pos (by simp [inN]; omega)]
end BTs
set_option maxRecDepth 100000 in
set_option maxHeartbeats 4000000 in
theorem m_byTurns {G : Cx} {d : Nat} {h h0 : List va_E} {b : MB} {p : MP} {t : MT} {o : MO} {Q : Option Value → List va_E → Prop} (hd : 90 ≤ d) (hz : gz G = false) (hm : MS G h0 h (b, p, t, o)) {v : Cv} {F : Lf} (hb : BV (b, p, t, o) v) (okv : okC v) (hL : LM b F) {ynt w : Int32} (hk : ∀ y h1 p1 t1 o1, y = spByTurns F v ynt w → MS G h0 h1 (b, p1, t1, o1) → o1.2.1 = o.2.1 → Q (some (.int y)) h1) : AM G yX12_byTurns cX12_byTurns 9 (some .int) d 0 0 [.ref (gB G + 80), .int (ynt), .int (w)] h Q := by
  obtain ⟨d, rfl, he⟩ := dpos hd
  refine AM.of [some (.ref (gB G + 80)), some (.int (ynt)), some (.int (w)), none, none, none, none, none, none] pnX12 (Nat.le_of_ble_eq_true rfl) (by simp [lsub, lvI, Value.category]) ?_
  refine a_iloadn_1 (pc := 0) dX12_byTurns_0 ?_
  refine a_if_lt (pc := 1) (tgt := 62) dX12_byTurns_1 (by decide) (fun c_1 => ?_) (fun c_1 => ?_)
  · refine a_iconst (pc := 62) (v := (-1)) dX12_byTurns_62 (by decide) ?_
    exact a_iret (pc := 63) dX12_byTurns_63 rfl (zf hz) (hk _ _ _ _ _ (bt_neg c_1).symm hm rfl)
  · obtain ⟨q, hqb, rfl⟩ := nn_nI c_1
    refine a_iloadn_1 (pc := 4) dX12_byTurns_4 ?_
    refine a_bipush (pc := 5) (v := nI 100) dX12_byTurns_5 (by decide) ?_
    refine n_idiv dX12_byTurns_7 (by omega) (by decide) (by decide) ?_
    refine n_i2l dX12_byTurns_8 (by omega) ?_
    refine a_lconst (pc := 9) (v := 0) dX12_byTurns_9 (by decide) ?_
    refine a_ldc2 (pc := 10) dX12_byTurns_10 w_1133 ?_
    refine cs_X12_96 (pc := 13) rfl dX12_byTurns_13 (Nat.le_of_ble_eq_true rfl) ?_
    refine m_within (by omega) hz ?_
    refine a_topi (bI (inN 0 5 (q / 100))) (congrArg bI (inL_N (lo := 0) (hi := 5) (by decide) (by decide) (by omega))) ?_
    refine b_if_eq (pc := 16) (tgt := 62) dX12_byTurns_16 (by decide) (fun c_16 => ?_) (fun c_16 => ?_)
    · refine a_iconst (pc := 62) (v := (-1)) dX12_byTurns_62 (by decide) ?_
      exact a_iret (pc := 63) dX12_byTurns_63 rfl (zf hz) (hk _ _ _ _ _ (bt_bad hqb (Or.inl (fun z => inN_f c_16 (by omega)))).symm hm rfl)
    · refine a_iloadn_1 (pc := 19) dX12_byTurns_19 ?_
      refine a_bipush (pc := 20) (v := nI 10) dX12_byTurns_20 (by decide) ?_
      refine n_idiv dX12_byTurns_22 (by omega) (by decide) (by decide) ?_
      refine a_bipush (pc := 23) (v := nI 10) dX12_byTurns_23 (by decide) ?_
      refine n_irem dX12_byTurns_25 (by omega) (by decide) (by decide) ?_
      refine n_i2l dX12_byTurns_26 (by omega) ?_
      refine a_lconst (pc := 27) (v := 1) dX12_byTurns_27 (by decide) ?_
      refine a_ldc2 (pc := 28) dX12_byTurns_28 w_1151 ?_
      refine cs_X12_96 (pc := 31) rfl dX12_byTurns_31 (Nat.le_of_ble_eq_true rfl) ?_
      refine m_within (by omega) hz ?_
      refine a_topi (bI (inN 1 3 ((q / 10) % 10))) (congrArg bI (inL_N (lo := 1) (hi := 3) (by decide) (by decide) (by omega))) ?_
      refine b_if_eq (pc := 34) (tgt := 62) dX12_byTurns_34 (by decide) (fun c_34 => ?_) (fun c_34 => ?_)
      · refine a_iconst (pc := 62) (v := (-1)) dX12_byTurns_62 (by decide) ?_
        exact a_iret (pc := 63) dX12_byTurns_63 rfl (zf hz) (hk _ _ _ _ _ (bt_bad hqb (Or.inl (fun z => inN_f c_34 (by omega)))).symm hm rfl)
      · refine a_iloadn_1 (pc := 37) dX12_byTurns_37 ?_
        refine a_bipush (pc := 38) (v := nI 10) dX12_byTurns_38 (by decide) ?_
        refine n_irem dX12_byTurns_40 (by omega) (by decide) (by decide) ?_
        refine n_i2l dX12_byTurns_41 (by omega) ?_
        refine a_lconst (pc := 42) (v := 0) dX12_byTurns_42 (by decide) ?_
        refine a_ldc2 (pc := 43) dX12_byTurns_43 w_1153 ?_
        refine cs_X12_96 (pc := 46) rfl dX12_byTurns_46 (Nat.le_of_ble_eq_true rfl) ?_
        refine m_within (by omega) hz ?_
        refine a_topi (bI (inN 0 6 (q % 10))) (congrArg bI (inL_N (lo := 0) (hi := 6) (by decide) (by decide) (by omega))) ?_
        refine b_if_eq (pc := 49) (tgt := 62) dX12_byTurns_49 (by decide) (fun c_49 => ?_) (fun c_49 => ?_)
        · refine a_iconst (pc := 62) (v := (-1)) dX12_byTurns_62 (by decide) ?_
          exact a_iret (pc := 63) dX12_byTurns_63 rfl (zf hz) (hk _ _ _ _ _ (bt_bad hqb (Or.inl (fun z => inN_f c_49 (by omega)))).symm hm rfl)
        · refine a_iloadn_2 (pc := 52) dX12_byTurns_52 ?_
          refine a_i2l (pc := 53) dX12_byTurns_53 ?_
          refine a_lconst (pc := 54) (v := 0) dX12_byTurns_54 (by decide) ?_
          refine a_lconst (pc := 55) (v := 1) dX12_byTurns_55 (by decide) ?_
          refine cs_X12_96 (pc := 56) rfl dX12_byTurns_56 (Nat.le_of_ble_eq_true rfl) ?_
          refine m_within (by omega) hz ?_
          refine a_topi (bI (inR 0 (nI 1) w)) (congrArg bI (inL_R 0 1 (by decide) (by decide) w)) ?_
          refine b_if_ne (pc := 59) (tgt := 64) dX12_byTurns_59 (by decide) (fun c_59 => ?_) (fun c_59 => ?_)
          · obtain ⟨n_w, h_w, rfl⟩ := inR_of (by decide) c_59
            have i_w : iN (nI n_w) = n_w := iN_nI (by omega)
            have hr9 := inN_t c_16
            have hn9 := inN_t c_34
            have ht9 := inN_t c_49
            have hq9 : q ≤ 599 := by omega
            have hall : q ≤ 599 ∧ 1 ≤ q / 10 % 10 ∧ q / 10 % 10 ≤ 3 ∧ q % 10 ≤ 6 := by omega
            have hsp := bt_ok (F := F) (v := v) hqb hall (w := nI n_w) (by assumption)
            rw [hsp] at hk
            obtain ⟨f, hf, hB, hX⟩ := fstX_of (F := F) (rs := (6 * (q / 100))) (t := q % 10) (n := q / 10 % 10) (v := v) (by omega)
            obtain ⟨B, hBe⟩ : ∃ B, B = rfold f true (6 * (q / 100)) v 6 := ⟨_, rfl⟩
            rw [← hBe] at hB hX
            obtain ⟨X, hXe⟩ : ∃ X, X = fstX F (6 * (q / 100)) (q % 10) (q / 10 % 10) v := ⟨_, rfl⟩
            rw [← hXe] at hX hk
            rw [outT_R, hB] at hk
            have f36 : ∀ u, f u ≤ 36 := fun u => by rw [hf]; exact outR_le _ _ u
            have B36 : B ≤ 36 := by rw [← hB]; exact outR_le _ _ _
            have PF0 : ∀ {d : Nat} {h : List va_E} {p1 : MP} {t1 : MT} {o1 : MO} {Q : Option Value → List va_E → Prop}, 83 ≤ d → MS G h0 h (b, p1, t1, o1) → (∀ h2 p2 t2 D2, MS G h0 h2 (sDid (b, p2, t2, o1) D2) → Q (some (.int (nI B))) h2) → AM G yX12_playsFrom cX12_playsFrom 8 (some .int) d 0 0 [.ref (gB G + 80), .int (nI (q / 100)), .int (nI 0), .int (nI (q / 10 % 10)), .int (nI (q % 10))] h Q := by
              intro d h p1 t1 o1 Q hd hm k
              refine m_playsFrom (y := q / 100) (m := q / 10 % 10) (tt := q % 10) hz hb okv hL (by omega) (by omega) (by omega) (q / 10 % 10) (e := 0) (by omega) hm (Nat.zero_add _) (fun i hi => absurd hi (Nat.not_lt_zero i)) (fun h2 p2 t2 D2 _ a2 => ?_)
              have kk := k h2 p2 t2 D2 a2
              rw [← hB] at kk
              exact kk
            have PF1 : ∀ {d : Nat} {h : List va_E} {p1 : MP} {t1 : MT} {o1 : MO} {D1 : Nat → Nat} {x : Nat} {Q : Option Value → List va_E → Prop}, 83 ≤ d → MS G h0 h (sDid (b, p1, t1, o1) (va_up D1 0 x)) → x ≤ 6 → (∀ h2 p2 t2 D2, MS G h0 h2 (sDid (b, p2, t2, o1) D2) → Q (some (.int (nI (f (dnx true (6 * (q / 100)) v x))))) h2) → AM G yX12_playsFrom cX12_playsFrom 8 (some .int) d 0 0 [.ref (gB G + 80), .int (nI (q / 100)), .int (nI 1), .int (nI (q / 10 % 10)), .int (nI (q % 10))] h Q := by
              intro d h p1 t1 o1 D1 x Q hd hm hx k
              refine m_playsFrom (y := q / 100) (m := q / 10 % 10) (tt := q % 10) hz hb okv hL (by omega) (by omega) (by omega) (q / 10 % 10 - 1) (e := 1) (by omega) hm (by omega) (fun i hi => ?_) (fun h2 p2 t2 D2 _ a2 => ?_)
              · obtain rfl : i = 0 := by omega
                exact hx
              · have kk := k h2 p2 t2 D2 a2
                rw [hf] at kk
                exact kk
            refine a_iloadn_1 (pc := 64) dX12_byTurns_64 ?_
            refine a_bipush (pc := 65) (v := nI 100) dX12_byTurns_65 (by decide) ?_
            refine n_idiv dX12_byTurns_67 (by omega) (by decide) (by decide) ?_
            refine a_istoren_3 (pc := 68) dX12_byTurns_68 (by decide) (by first | rfl | trivial) ?_
            refine a_iloadn_1 (pc := 69) dX12_byTurns_69 ?_
            refine a_bipush (pc := 70) (v := nI 10) dX12_byTurns_70 (by decide) ?_
            refine n_idiv dX12_byTurns_72 (by omega) (by decide) (by decide) ?_
            refine a_bipush (pc := 73) (v := nI 10) dX12_byTurns_73 (by decide) ?_
            refine n_irem dX12_byTurns_75 (by omega) (by decide) (by decide) ?_
            refine a_istore_4 (pc := 76) dX12_byTurns_76 (by decide) (by first | rfl | trivial) ?_
            refine a_iloadn_1 (pc := 78) dX12_byTurns_78 ?_
            refine a_bipush (pc := 79) (v := nI 10) dX12_byTurns_79 (by decide) ?_
            refine n_irem dX12_byTurns_81 (by omega) (by decide) (by decide) ?_
            refine a_istore_5 (pc := 82) dX12_byTurns_82 (by decide) (by first | rfl | trivial) ?_
            refine a_aloadn_0 (pc := 84) dX12_byTurns_84 ?_
            refine a_iloadn_3 (pc := 85) dX12_byTurns_85 ?_
            refine a_iconst (pc := 86) (v := nI 0) dX12_byTurns_86 (by decide) ?_
            refine a_iload_4 (pc := 87) dX12_byTurns_87 ?_
            refine a_iload_5 (pc := 89) dX12_byTurns_89 ?_
            refine cv_X12_291 (pc := 91) rfl dX12_byTurns_91 hm.2.2.1 (Nat.le_of_ble_eq_true rfl) ?_
            refine PF0 (by omega) hm (fun h1 p1 t1 D1 hm1 => ?_)
            refine a_istore_6 (pc := 94) dX12_byTurns_94 (by decide) (by first | rfl | trivial) ?_
            refine a_iloadn_2 (pc := 96) dX12_byTurns_96 ?_
            refine n_if_ne (tgt := 103) dX12_byTurns_97 (by decide) (by omega) (fun c_97 => ?_) (fun c_97 => ?_)
            · refine a_aloadn_0 (pc := 103) dX12_byTurns_103 ?_
              refine mg_53 hm1 rfl dX12_byTurns_104 ?_
              refine a_iconst (pc := 107) (v := nI 0) dX12_byTurns_107 (by decide) ?_
              refine a_bipush (pc := 108) (v := nI 6) dX12_byTurns_108 (by decide) ?_
              refine ms_did (j := 0) (x := 6) hm1 dX12_byTurns_110 (by decide) (fun h2 hm2 => ?_)
              refine a_aloadn_0 (pc := 111) dX12_byTurns_111 ?_
              refine a_iloadn_3 (pc := 112) dX12_byTurns_112 ?_
              refine a_iconst (pc := 113) (v := nI 1) dX12_byTurns_113 (by decide) ?_
              refine a_iload_4 (pc := 114) dX12_byTurns_114 ?_
              refine a_iload_5 (pc := 116) dX12_byTurns_116 ?_
              refine cv_X12_291 (pc := 118) rfl dX12_byTurns_118 hm2.2.2.1 (Nat.le_of_ble_eq_true rfl) ?_
              refine PF1 (x := 6) (by omega) hm2 (by omega) (fun h3 p3 t3 D3 hm3 => ?_)
              rw [show dnx true (6 * (q / 100)) v 6 = v from if_neg (by omega)]
              have f36_3 := f36 v
              refine a_iload_6 (pc := 121) dX12_byTurns_121 ?_
              refine n_icmp_ne (tgt := 129) dX12_byTurns_123 (by decide) (by omega) (by omega) (fun c_123 => ?_) (fun c_123 => ?_)
              · obtain ⟨hX1, hX2, hX3, hX4⟩ : X < 6 ∧ _ ∧ _ ∧ _ := by
                  rcases hX with ⟨z, _⟩ | ⟨_, z⟩
                  · exact absurd z c_123
                  · exact z
                refine a_iconst (pc := 129) (v := (-1)) dX12_byTurns_129 (by decide) ?_
                refine a_istore_7 (pc := 130) dX12_byTurns_130 (by decide) (by first | rfl | trivial) ?_
                refine a_iconst (pc := 132) (v := nI 0) dX12_byTurns_132 (by decide) ?_
                refine a_istore_8 (pc := 133) dX12_byTurns_133 (by decide) (by first | rfl | trivial) ?_
                have lp : ∀ (m x : Nat) (h1 : List va_E) (p1 : MP) (t1 : MT) (D1 : Nat → Nat), 6 - x < m → x ≤ X → MS G h0 h1 (sDid (b, p1, t1, o) D1) → AW G yX12_byTurns cX12_byTurns 9 (some .int) (rmx (d + 1) 0 0) (ZQ G 0 0 (h.length + 0) Q) 0 0 135 [some (.ref (gB G + 80)), some (.int (nI (q))), some (.int (nI (n_w))), some (.int (nI (q / 100))), some (.int (nI (q / 10 % 10))), some (.int (nI (q % 10))), some (.int (nI (B))), some (.int ((-1))), some (.int (nI (x)))] [] h1 := by
                  intro m
                  induction m with
                  | zero => intro x h1 p1 t1 D1 hn; exact absurd hn (Nat.not_lt_zero _)
                  | succ m ih =>
                    intro x h1 p1 t1 D1 hn hx hm1
                    refine a_iload_8 (pc := 135) dX12_byTurns_135 ?_
                    refine a_bipush (pc := 137) (v := nI 6) dX12_byTurns_137 (by decide) ?_
                    refine n_icmp_ge (tgt := 202) dX12_byTurns_139 (by decide) (by omega) (by decide) (fun c_139 => by omega) (fun c_139 => ?_)
                    refine a_iload_7 (pc := 142) dX12_byTurns_142 ?_
                    refine a_if_ge (pc := 144) (tgt := 202) dX12_byTurns_144 (by decide) (fun c_144 => absurd c_144 (by decide)) (fun c_144 => ?_)
                    refine a_aloadn_0 (pc := 147) dX12_byTurns_147 ?_
                    refine mg_9 hm1 rfl dX12_byTurns_148 ?_
                    refine a_bipush (pc := 151) (v := nI 108) dX12_byTurns_151 (by decide) ?_
                    refine a_bipush (pc := 153) (v := nI 6) dX12_byTurns_153 (by decide) ?_
                    refine a_iloadn_3 (pc := 155) dX12_byTurns_155 ?_
                    refine n_imul dX12_byTurns_156 ?_
                    refine n_iadd dX12_byTurns_157 ?_
                    refine a_iload_8 (pc := 158) dX12_byTurns_158 ?_
                    refine n_iadd dX12_byTurns_160 ?_
                    refine ml_may (x := (cK v ((6 * (q / 100)) + x)).toNat) hm1 dX12_byTurns_161 (by omega) (by rw [Nat.add_assoc]; exact (hb.1 ((6 * (q / 100)) + x) (by omega)).2.1) ?_
                    refine a_topi (bI (cK v ((6 * (q / 100)) + x))) (bI_nI _).symm ?_
                    refine b_if_ne (pc := 162) (tgt := 196) dX12_byTurns_162 (by decide) (fun c_162 => ?_) (fun c_162 => ?_)
                    · have xX : x ≠ X := fun e => by rw [e, hX2] at c_162; cases c_162
                      refine a_iinc_8 (pc := 196) (v := nI (x + 1)) dX12_byTurns_196 (nI_add _ _) (by decide) (by first | rfl | trivial) ?_
                      refine a_goto (pc := 199) (tgt := 135) dX12_byTurns_199 (by decide) ?_
                      exact ih (x + 1) _ _ _ _ (by omega) (by omega) hm1
                    · refine a_aloadn_0 (pc := 165) dX12_byTurns_165 ?_
                      refine mg_53 hm1 rfl dX12_byTurns_166 ?_
                      refine a_iconst (pc := 169) (v := nI 0) dX12_byTurns_169 (by decide) ?_
                      refine a_iload_8 (pc := 170) dX12_byTurns_170 ?_
                      refine ms_did (j := 0) (x := x) hm1 dX12_byTurns_172 (by decide) (fun h4 hm4 => ?_)
                      refine a_aloadn_0 (pc := 173) dX12_byTurns_173 ?_
                      refine a_iloadn_3 (pc := 174) dX12_byTurns_174 ?_
                      refine a_iconst (pc := 175) (v := nI 1) dX12_byTurns_175 (by decide) ?_
                      refine a_iload_4 (pc := 176) dX12_byTurns_176 ?_
                      refine a_iload_5 (pc := 178) dX12_byTurns_178 ?_
                      refine cv_X12_291 (pc := 180) rfl dX12_byTurns_180 hm4.2.2.1 (Nat.le_of_ble_eq_true rfl) ?_
                      refine PF1 (x := x) (by omega) hm4 (by omega) (fun h5 p5 t5 D5 hm5 => ?_)
                      rw [show dnx true (6 * (q / 100)) v x = csW v ((6 * (q / 100)) + x) (wB true v ((6 * (q / 100)) + x)) from if_pos (by omega)]
                      have f36_5 := f36 ((csW v ((6 * (q / 100)) + x) (wB true v ((6 * (q / 100)) + x))))
                      refine a_iload_6 (pc := 183) dX12_byTurns_183 ?_
                      refine n_icmp_ne (tgt := 193) dX12_byTurns_185 (by decide) (by omega) (by omega) (fun c_185 => ?_) (fun c_185 => ?_)
                      · have xX : x ≠ X := fun e => c_185 (by rw [e]; exact hX3)
                        refine a_iconst (pc := 193) (v := (-1)) dX12_byTurns_193 (by decide) ?_
                        refine a_istore_7 (pc := 194) dX12_byTurns_194 (by decide) (by first | rfl | trivial) ?_
                        refine a_iinc_8 (pc := 196) (v := nI (x + 1)) dX12_byTurns_196 (nI_add _ _) (by decide) (by first | rfl | trivial) ?_
                        refine a_goto (pc := 199) (tgt := 135) dX12_byTurns_199 (by decide) ?_
                        exact ih (x + 1) _ _ _ _ (by omega) (by omega) hm5
                      · have xX : x = X := by
                          rcases Nat.lt_or_ge x X with z | z
                          · exact absurd c_185 (hX4 x z c_162)
                          · omega
                        refine a_iload_8 (pc := 188) dX12_byTurns_188 ?_
                        refine a_goto (pc := 190) (tgt := 194) dX12_byTurns_190 (by decide) ?_
                        refine a_istore_7 (pc := 194) dX12_byTurns_194 (by decide) (by first | rfl | trivial) ?_
                        refine a_iinc_8 (pc := 196) (v := nI (x + 1)) dX12_byTurns_196 (nI_add _ _) (by decide) (by first | rfl | trivial) ?_
                        refine a_goto (pc := 199) (tgt := 135) dX12_byTurns_199 (by decide) ?_
                        refine a_iload_8 (pc := 135) dX12_byTurns_135 ?_
                        refine a_bipush (pc := 137) (v := nI 6) dX12_byTurns_137 (by decide) ?_
                        refine n_icmp_ge (tgt := 202) dX12_byTurns_139 (by decide) (by omega) (by decide) (fun c_139 => ?_) (fun c_139 => ?_)
                        · refine a_iload_7 (pc := 202) dX12_byTurns_202 ?_
                          exact a_iret (pc := 204) dX12_byTurns_204 rfl (zf hz) (hk _ _ _ _ _ (by rw [if_neg (by rw [iN_nI (by omega)]; omega), xX]) hm5 rfl)
                        · refine a_iload_7 (pc := 142) dX12_byTurns_142 ?_
                          refine n_if_ge (tgt := 202) dX12_byTurns_144 (by decide) (by omega) ?_
                          refine a_iload_7 (pc := 202) dX12_byTurns_202 ?_
                          exact a_iret (pc := 204) dX12_byTurns_204 rfl (zf hz) (hk _ _ _ _ _ (by rw [if_neg (by rw [iN_nI (by omega)]; omega), xX]) hm5 rfl)
                exact lp 7 0 _ _ _ _ (by omega) (by omega) hm3
              · have hX6 : X = 6 := by
                  rcases hX with ⟨_, z⟩ | ⟨z, _⟩
                  · exact z
                  · exact absurd c_123 z
                refine a_bipush (pc := 126) (v := nI 6) dX12_byTurns_126 (by decide) ?_
                exact a_iret (pc := 128) dX12_byTurns_128 rfl (zf hz) (hk _ _ _ _ _ (by rw [if_neg (by rw [iN_nI (by omega)]; omega), hX6]) hm3 rfl)
            · refine a_iload_6 (pc := 100) dX12_byTurns_100 ?_
              exact a_iret (pc := 102) dX12_byTurns_102 rfl (zf hz) (hk _ _ _ _ _ (by rw [if_pos (by rw [iN_nI (by omega)]; omega)]) hm1 rfl)
          · refine a_iconst (pc := 62) (v := (-1)) dX12_byTurns_62 (by decide) ?_
            exact a_iret (pc := 63) dX12_byTurns_63 rfl (zf hz) (hk _ _ _ _ _ (bt_bad hqb (Or.inr c_59)).symm hm rfl)
