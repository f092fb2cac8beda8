/-! THE REFERENCE: shelves, further; the hill -/
def shR (b : MB) (dd i ee j n : Int32) : Int32 := if inR 0 (nI 5) dd = true then (if inR 0 (nI 5) ee = true then (if gShelf b (iN dd) < 0 ∨ gShelf b (iN ee) < 0 then -11 else if gShelf b (iN dd) < nI 50 ∨ ¬ gShelf b (iN dd) = gShelf b (iN ee) then -12 else if n < 0 ∨ i < 0 ∨ j < 0 ∨ nI (gMany b (iN dd)) - n < i ∨ nI (gMany b (iN ee)) - n < j then -13 else 0) else -1) else -1
def lgR (b : MB) (dd : Int32) : Int32 := if inR 0 (nI 5) dd = true then (if gShelf b (iN dd) < 0 then -11 else if gShelf b (iN dd) = nI 53 then nI 1 else -12) else -1
theorem sub_le {m n i : Nat} (hm : m ≤ 60) (hn : n < 2147483648) (hi : i < 2147483648) (h : nI i ≤ nI m - nI n) : i + n ≤ m := by
  by_cases e : n ≤ m
  · rw [pk_sub e] at h
    have := (nI_leI hi (by omega)).mp h
    omega
  · exfalso
    have h1 : (nI m - nI n).toInt = (m : Int) - n := by
      rw [Int32.toInt_sub, nI_toInt (by omega), nI_toInt hn, Int.bmod_eq_of_le (by omega) (by omega)]
    rw [Int32.le_iff_toInt_le, h1, nI_toInt hi] at h
    omega
set_option maxRecDepth 100000 in
set_option maxHeartbeats 4000000 in
theorem m_shift {G : Cx} {d : Nat} {h h0 : List va_E} {b : MB} {p : MP} {t : MT} {o : MO} {Q : Option Value → List va_E → Prop} (hd : 3 ≤ d) (hz : gz G = false) (hm : MS G h0 h (b, p, t, o)) {dd i ee j n : Int32} (hS : ShI b) (k0 : ∀ y, y = shR b dd i ee j n → ¬ y = 0 → Q (some (.int y)) h) (k1 : ∀ q i1 q2 j1 n1, q < 6 → q2 < 6 → dd = nI q → i = nI i1 → ee = nI q2 → j = nI j1 → n = nI n1 → i1 + n1 ≤ gMany b q → j1 + n1 ≤ gMany b q2 → (¬ gShelf b q < nI 50 ∧ gShelf b q = gShelf b q2) → ∀ (f : Nat → Int64) o1, (∀ z, z < n1 → f (60 * q2 + j1 + z) = gItems b (60 * q + i1 + z)) → (∀ z, z < 60 * q2 + j1 ∨ 60 * q2 + j1 + n1 ≤ z → f z = gItems b z) → ∀ h1, MS G h0 h1 (uItems b f, p, t, o1) → o1.2.1 = o.2.1 → Q (some (.int (nI n1))) h1) : AM G yX12_shift cX12_shift 7 (some .int) d 0 0 [.ref (gB G + 80), .int (dd), .int (i), .int (ee), .int (j), .int (n)] h Q := by
  obtain ⟨d, rfl, he⟩ := dpos hd
  refine AM.of [some (.ref (gB G + 80)), some (.int (dd)), some (.int (i)), some (.int (ee)), some (.int (j)), some (.int (n)), none] pnX12 (Nat.le_of_ble_eq_true rfl) (by simp [lsub, lvI, Value.category]) ?_
  refine a_iloadn_1 (pc := 0) dX12_shift_0 ?_
  refine cs_X12_100 (pc := 1) rfl dX12_shift_1 (Nat.le_of_ble_eq_true rfl) ?_
  refine m_isShelf (by omega) hz ?_
  refine b_if_eq (pc := 4) (tgt := 14) dX12_shift_4 (by decide) (fun c_4 => ?_) (fun c_4 => ?_)
  · refine a_iconst (pc := 14) (v := (-1)) dX12_shift_14 (by decide) ?_
    exact a_iret (pc := 15) dX12_shift_15 rfl (zf hz) (k0 _ (by unfold shR; rw [c_4]; rfl) (by decide))
  · obtain ⟨n_dd, h_dd, rfl⟩ := inR_of (by decide) c_4
    have i_dd : iN (nI n_dd) = n_dd := iN_nI (by omega)
    refine a_iloadn_3 (pc := 7) dX12_shift_7 ?_
    refine cs_X12_100 (pc := 8) rfl dX12_shift_8 (Nat.le_of_ble_eq_true rfl) ?_
    refine m_isShelf (by omega) hz ?_
    refine b_if_ne (pc := 11) (tgt := 16) dX12_shift_11 (by decide) (fun c_11 => ?_) (fun c_11 => ?_)
    · obtain ⟨n_ee, h_ee, rfl⟩ := inR_of (by decide) c_11
      have i_ee : iN (nI n_ee) = n_ee := iN_nI (by omega)
      refine a_aloadn_0 (pc := 16) dX12_shift_16 ?_
      refine mg_71 hm rfl dX12_shift_17 ?_
      refine a_iloadn_1 (pc := 20) dX12_shift_20 ?_
      refine ml_shelf (x := gShelf b n_dd) hm dX12_shift_21 (by omega) rfl ?_
      refine a_if_lt (pc := 22) (tgt := 34) dX12_shift_22 (by decide) (fun c_22 => ?_) (fun c_22 => ?_)
      · refine a_bipush (pc := 34) (v := (-11)) dX12_shift_34 (by decide) ?_
        exact a_iret (pc := 36) dX12_shift_36 rfl (zf hz) (k0 _ (by unfold shR; rw [c_4, if_pos rfl, c_11, if_pos rfl, i_dd, i_ee, if_pos (Or.inl c_22)]) (by decide))
      · refine a_aloadn_0 (pc := 25) dX12_shift_25 ?_
        refine mg_71 hm rfl dX12_shift_26 ?_
        refine a_iloadn_3 (pc := 29) dX12_shift_29 ?_
        refine ml_shelf (x := gShelf b n_ee) hm dX12_shift_30 (by omega) rfl ?_
        refine a_if_ge (pc := 31) (tgt := 37) dX12_shift_31 (by decide) (fun c_31 => ?_) (fun c_31 => ?_)
        · refine a_aloadn_0 (pc := 37) dX12_shift_37 ?_
          refine mg_71 hm rfl dX12_shift_38 ?_
          refine a_iloadn_1 (pc := 41) dX12_shift_41 ?_
          refine ml_shelf (x := gShelf b n_dd) hm dX12_shift_42 (by omega) rfl ?_
          refine a_bipush (pc := 43) (v := nI 50) dX12_shift_43 (by decide) ?_
          refine a_icmp_lt (pc := 45) (tgt := 63) dX12_shift_45 (by decide) (fun c_45 => ?_) (fun c_45 => ?_)
          · refine a_bipush (pc := 63) (v := (-12)) dX12_shift_63 (by decide) ?_
            exact a_iret (pc := 65) dX12_shift_65 rfl (zf hz) (k0 _ (by unfold shR; rw [c_4, if_pos rfl, c_11, if_pos rfl, i_dd, i_ee, if_neg (fun z => z.elim (fun y => c_22 y) (fun y => absurd y (Int32.not_lt.mpr c_31))), if_pos (Or.inl c_45)]) (by decide))
          · refine a_aloadn_0 (pc := 48) dX12_shift_48 ?_
            refine mg_71 hm rfl dX12_shift_49 ?_
            refine a_iloadn_1 (pc := 52) dX12_shift_52 ?_
            refine ml_shelf (x := gShelf b n_dd) hm dX12_shift_53 (by omega) rfl ?_
            refine a_aloadn_0 (pc := 54) dX12_shift_54 ?_
            refine mg_71 hm rfl dX12_shift_55 ?_
            refine a_iloadn_3 (pc := 58) dX12_shift_58 ?_
            refine ml_shelf (x := gShelf b n_ee) hm dX12_shift_59 (by omega) rfl ?_
            refine a_icmp_eq (pc := 60) (tgt := 66) dX12_shift_60 (by decide) (fun c_60 => ?_) (fun c_60 => ?_)
            · refine a_iload_5 (pc := 66) dX12_shift_66 ?_
              refine a_if_lt (pc := 68) (tgt := 107) dX12_shift_68 (by decide) (fun c_68 => ?_) (fun c_68 => ?_)
              · refine a_bipush (pc := 107) (v := (-13)) dX12_shift_107 (by decide) ?_
                exact a_iret (pc := 109) dX12_shift_109 rfl (zf hz) (k0 _ (by unfold shR; rw [c_4, if_pos rfl, c_11, if_pos rfl, i_dd, i_ee, if_neg (fun z => z.elim (fun y => c_22 y) (fun y => absurd y (Int32.not_lt.mpr c_31))), if_neg (fun z => z.elim (fun y => c_45 y) (fun y => y c_60)), if_pos (Or.inl c_68)]) (by decide))
              · refine a_iloadn_2 (pc := 71) dX12_shift_71 ?_
                refine a_if_lt (pc := 72) (tgt := 107) dX12_shift_72 (by decide) (fun c_72 => ?_) (fun c_72 => ?_)
                · refine a_bipush (pc := 107) (v := (-13)) dX12_shift_107 (by decide) ?_
                  exact a_iret (pc := 109) dX12_shift_109 rfl (zf hz) (k0 _ (by unfold shR; rw [c_4, if_pos rfl, c_11, if_pos rfl, i_dd, i_ee, if_neg (fun z => z.elim (fun y => c_22 y) (fun y => absurd y (Int32.not_lt.mpr c_31))), if_neg (fun z => z.elim (fun y => c_45 y) (fun y => y c_60)), if_pos (Or.inr (Or.inl c_72))]) (by decide))
                · refine a_iload_4 (pc := 75) dX12_shift_75 ?_
                  refine a_if_lt (pc := 77) (tgt := 107) dX12_shift_77 (by decide) (fun c_77 => ?_) (fun c_77 => ?_)
                  · refine a_bipush (pc := 107) (v := (-13)) dX12_shift_107 (by decide) ?_
                    exact a_iret (pc := 109) dX12_shift_109 rfl (zf hz) (k0 _ (by unfold shR; rw [c_4, if_pos rfl, c_11, if_pos rfl, i_dd, i_ee, if_neg (fun z => z.elim (fun y => c_22 y) (fun y => absurd y (Int32.not_lt.mpr c_31))), if_neg (fun z => z.elim (fun y => c_45 y) (fun y => y c_60)), if_pos (Or.inr (Or.inr (Or.inl c_77)))]) (by decide))
                  · refine a_iloadn_2 (pc := 80) dX12_shift_80 ?_
                    refine a_aloadn_0 (pc := 81) dX12_shift_81 ?_
                    refine mg_74 hm rfl dX12_shift_82 ?_
                    refine a_iloadn_1 (pc := 85) dX12_shift_85 ?_
                    refine ml_many (x := gMany b n_dd) hm dX12_shift_86 (by omega) rfl ?_
                    refine a_iload_5 (pc := 87) dX12_shift_87 ?_
                    refine a_isub (pc := 89) dX12_shift_89 ?_
                    refine a_icmp_gt (pc := 90) (tgt := 107) dX12_shift_90 (by decide) (fun c_90 => ?_) (fun c_90 => ?_)
                    · refine a_bipush (pc := 107) (v := (-13)) dX12_shift_107 (by decide) ?_
                      exact a_iret (pc := 109) dX12_shift_109 rfl (zf hz) (k0 _ (by unfold shR; rw [c_4, if_pos rfl, c_11, if_pos rfl, i_dd, i_ee, if_neg (fun z => z.elim (fun y => c_22 y) (fun y => absurd y (Int32.not_lt.mpr c_31))), if_neg (fun z => z.elim (fun y => c_45 y) (fun y => y c_60)), if_pos (Or.inr (Or.inr (Or.inr (Or.inl c_90))))]) (by decide))
                    · refine a_iload_4 (pc := 93) dX12_shift_93 ?_
                      refine a_aloadn_0 (pc := 95) dX12_shift_95 ?_
                      refine mg_74 hm rfl dX12_shift_96 ?_
                      refine a_iloadn_3 (pc := 99) dX12_shift_99 ?_
                      refine ml_many (x := gMany b n_ee) hm dX12_shift_100 (by omega) rfl ?_
                      refine a_iload_5 (pc := 101) dX12_shift_101 ?_
                      refine a_isub (pc := 103) dX12_shift_103 ?_
                      refine a_icmp_le (pc := 104) (tgt := 110) dX12_shift_104 (by decide) (fun c_104 => ?_) (fun c_104 => ?_)
                      · obtain ⟨n1, hn1, rfl⟩ := nI_of c_68
                        obtain ⟨i1, hi1, rfl⟩ := nI_of c_72
                        obtain ⟨j1, hj1, rfl⟩ := nI_of c_77
                        have md9 := (hS.2 n_dd (by omega)).2
                        have me9 := (hS.2 n_ee (by omega)).2
                        have s1 := sub_le md9 hn1 hi1 (Int32.not_lt.mp c_90)
                        have s2 := sub_le me9 hn1 hj1 c_104
                        have hrow : ¬ gShelf b n_dd < nI 50 ∧ gShelf b n_dd = gShelf b n_ee := ⟨c_45, c_60⟩
                        refine a_iconst (pc := 110) (v := nI 0) dX12_shift_110 (by decide) ?_
                        refine a_istore_6 (pc := 111) dX12_shift_111 (by decide) (by first | rfl | trivial) ?_
                        have lp1 : ∀ (n : Nat) (l : Nat) (h1 : List va_E) (ca : Nat → Int64), n1 - l < n → (l ≤ n1) → (∀ z, z < l → ca z = gItems b (60 * n_dd + i1 + z)) → (MS G h0 h1 (b, p, t, (o.1, o.2.1, o.2.2.1, o.2.2.2.1, o.2.2.2.2.1, o.2.2.2.2.2.1, o.2.2.2.2.2.2.1, o.2.2.2.2.2.2.2.1, ca))) → AW G yX12_shift cX12_shift 7 (some .int) (rmx (d + 1) 0 0) (ZQ G 0 0 (h.length + 0) Q) 0 0 113 [some (.ref (gB G + 80)), some (.int (nI (n_dd))), some (.int (nI (i1))), some (.int (nI (n_ee))), some (.int (nI (j1))), some (.int (nI (n1))), some (.int (nI (l)))] [] h1 := by
                          intro n
                          induction n with
                          | zero => intro l h1 ca hn; exact absurd hn (Nat.not_lt_zero _)
                          | succ n ih =>
                            intro l h1 ca hn hl hca hm1
                            refine a_iload_6 (pc := 113) dX12_shift_113 ?_
                            refine a_iload_5 (pc := 115) dX12_shift_115 ?_
                            refine n_icmp_ge (tgt := 147) dX12_shift_117 (by decide) (by omega) (by omega) (fun c_117 => ?_) (fun c_117 => ?_)
                            · refine a_iconst (pc := 147) (v := nI 0) dX12_shift_147 (by decide) ?_
                              refine a_istore_6 (pc := 148) dX12_shift_148 (by decide) (by first | rfl | trivial) ?_
                              have hca : ∀ z, z < n1 → ca z = gItems b (60 * n_dd + i1 + z) := fun z hz9 => hca z (by omega)
                              have lp2 : ∀ (n : Nat) (l : Nat) (h1 : List va_E) (f : Nat → Int64), n1 - l < n → (l ≤ n1) → (∀ z, z < l → f (60 * n_ee + j1 + z) = gItems b (60 * n_dd + i1 + z)) → (∀ z, z < 60 * n_ee + j1 ∨ 60 * n_ee + j1 + l ≤ z → f z = gItems b z) → (MS G h0 h1 (uItems b f, p, t, (o.1, o.2.1, o.2.2.1, o.2.2.2.1, o.2.2.2.2.1, o.2.2.2.2.2.1, o.2.2.2.2.2.2.1, o.2.2.2.2.2.2.2.1, ca))) → AW G yX12_shift cX12_shift 7 (some .int) (rmx (d + 1) 0 0) (ZQ G 0 0 (h.length + 0) Q) 0 0 150 [some (.ref (gB G + 80)), some (.int (nI (n_dd))), some (.int (nI (i1))), some (.int (nI (n_ee))), some (.int (nI (j1))), some (.int (nI (n1))), some (.int (nI (l)))] [] h1 := by
                                intro n
                                induction n with
                                | zero => intro l h1 f hn; exact absurd hn (Nat.not_lt_zero _)
                                | succ n ih =>
                                  intro l h1 f hn hl hf hf2 hm1
                                  refine a_iload_6 (pc := 150) dX12_shift_150 ?_
                                  refine a_iload_5 (pc := 152) dX12_shift_152 ?_
                                  refine n_icmp_ge (tgt := 185) dX12_shift_154 (by decide) (by omega) (by omega) (fun c_154 => ?_) (fun c_154 => ?_)
                                  · refine a_iload_5 (pc := 185) dX12_shift_185 ?_
                                    exact a_iret (pc := 187) dX12_shift_187 rfl (zf hz) (k1 n_dd i1 n_ee j1 n1 (by omega) (by omega) rfl rfl rfl rfl rfl (by omega) (by omega) hrow f _ (fun z hz9 => hf z (by omega)) (fun z hz9 => hf2 z (by omega)) _ hm1 rfl)
                                  · refine a_aloadn_0 (pc := 157) dX12_shift_157 ?_
                                    refine mg_77 hm1 rfl dX12_shift_158 ?_
                                    refine a_bipush (pc := 161) (v := nI 60) dX12_shift_161 (by decide) ?_
                                    refine a_iloadn_3 (pc := 163) dX12_shift_163 ?_
                                    refine n_imul dX12_shift_164 ?_
                                    refine a_iload_4 (pc := 165) dX12_shift_165 ?_
                                    refine n_iadd dX12_shift_167 ?_
                                    refine a_iload_6 (pc := 168) dX12_shift_168 ?_
                                    refine n_iadd dX12_shift_170 ?_
                                    refine a_aloadn_0 (pc := 171) dX12_shift_171 ?_
                                    refine mg_81 hm1 rfl dX12_shift_172 ?_
                                    refine a_iload_6 (pc := 175) dX12_shift_175 ?_
                                    refine ml_carried (x := gItems b (60 * n_dd + i1 + l)) hm1 dX12_shift_177 (by omega) (hca l (by omega)) ?_
                                    refine ms_items (j := (60 * n_ee + j1 + l)) (x := gItems b (60 * n_dd + i1 + l)) hm1 dX12_shift_178 (by omega) (fun h6 hm6 => ?_)
                                    refine a_iinc_6 (pc := 179) (v := nI (l + 1)) dX12_shift_179 (nI_add _ _) (by decide) (by first | rfl | trivial) ?_
                                    refine a_goto (pc := 182) (tgt := 150) dX12_shift_182 (by decide) ?_
                                    exact ih (l + 1) _ _ (by omega) (by omega) (fun z hz9 => by unfold vp_updL; split; (· rename_i e; rw [show z = l by omega]); (· exact hf z (by omega))) (fun z hz9 => by unfold vp_updL; rw [if_neg (by omega)]; exact hf2 z (by omega)) hm6
                              exact lp2 (n1 + 1) 0 _ (gItems b) (by omega) (by omega) (fun z hz9 => absurd hz9 (Nat.not_lt_zero _)) (fun _ _ => rfl) hm1
                            · refine a_aloadn_0 (pc := 120) dX12_shift_120 ?_
                              refine mg_81 hm1 rfl dX12_shift_121 ?_
                              refine a_iload_6 (pc := 124) dX12_shift_124 ?_
                              refine a_aloadn_0 (pc := 126) dX12_shift_126 ?_
                              refine mg_77 hm1 rfl dX12_shift_127 ?_
                              refine a_bipush (pc := 130) (v := nI 60) dX12_shift_130 (by decide) ?_
                              refine a_iloadn_1 (pc := 132) dX12_shift_132 ?_
                              refine n_imul dX12_shift_133 ?_
                              refine a_iloadn_2 (pc := 134) dX12_shift_134 ?_
                              refine n_iadd dX12_shift_135 ?_
                              refine a_iload_6 (pc := 136) dX12_shift_136 ?_
                              refine n_iadd dX12_shift_138 ?_
                              refine ml_items (x := gItems b (60 * n_dd + i1 + l)) hm1 dX12_shift_139 (by omega) rfl ?_
                              refine ms_carried (j := l) (x := gItems b (60 * n_dd + i1 + l)) hm1 dX12_shift_140 (by omega) (fun h6 hm6 => ?_)
                              refine a_iinc_6 (pc := 141) (v := nI (l + 1)) dX12_shift_141 (nI_add _ _) (by decide) (by first | rfl | trivial) ?_
                              refine a_goto (pc := 144) (tgt := 113) dX12_shift_144 (by decide) ?_
                              exact ih (l + 1) _ _ (by omega) (by omega) (fun z hz9 => by unfold vp_updL; split; (· rename_i e; rw [e]); (· exact hca z (by omega))) hm6
                        exact lp1 (n1 + 1) 0 _ o.2.2.2.2.2.2.2.2 (by omega) (by omega) (fun z hz9 => absurd hz9 (Nat.not_lt_zero _)) hm
                      · refine a_bipush (pc := 107) (v := (-13)) dX12_shift_107 (by decide) ?_
                        exact a_iret (pc := 109) dX12_shift_109 rfl (zf hz) (k0 _ (by unfold shR; rw [c_4, if_pos rfl, c_11, if_pos rfl, i_dd, i_ee, if_neg (fun z => z.elim (fun y => c_22 y) (fun y => absurd y (Int32.not_lt.mpr c_31))), if_neg (fun z => z.elim (fun y => c_45 y) (fun y => y c_60)), if_pos (Or.inr (Or.inr (Or.inr (Or.inr (Int32.not_le.mp c_104)))))]) (by decide))
            · refine a_bipush (pc := 63) (v := (-12)) dX12_shift_63 (by decide) ?_
              exact a_iret (pc := 65) dX12_shift_65 rfl (zf hz) (k0 _ (by unfold shR; rw [c_4, if_pos rfl, c_11, if_pos rfl, i_dd, i_ee, if_neg (fun z => z.elim (fun y => c_22 y) (fun y => absurd y (Int32.not_lt.mpr c_31))), if_pos (Or.inr c_60)]) (by decide))
        · refine a_bipush (pc := 34) (v := (-11)) dX12_shift_34 (by decide) ?_
          exact a_iret (pc := 36) dX12_shift_36 rfl (zf hz) (k0 _ (by unfold shR; rw [c_4, if_pos rfl, c_11, if_pos rfl, i_dd, i_ee, if_pos (Or.inr (Int32.not_le.mp c_31))]) (by decide))
    · refine a_iconst (pc := 14) (v := (-1)) dX12_shift_14 (by decide) ?_
      exact a_iret (pc := 15) dX12_shift_15 rfl (zf hz) (k0 _ (by unfold shR; rw [c_4, if_pos rfl, c_11]; rfl) (by decide))
set_option maxRecDepth 100000 in
set_option maxHeartbeats 4000000 in
theorem m_longsIs {G : Cx} {d : Nat} {h h0 : List va_E} {b : MB} {p : MP} {t : MT} {o : MO} {Q : Option Value → List va_E → Prop} (hd : 3 ≤ d) (hz : gz G = false) (hm : MS G h0 h (b, p, t, o)) {dd : Int32} (k : ∀ y, y = lgR b dd → Q (some (.int y)) h) : AM G yX12_longsIs cX12_longsIs 2 (some .int) d 0 0 [.ref (gB G + 80), .int (dd)] h Q := by
  obtain ⟨d, rfl, he⟩ := dpos hd
  refine AM.of [some (.ref (gB G + 80)), some (.int (dd))] pnX12 (Nat.le_of_ble_eq_true rfl) (by simp [lsub, lvI, Value.category]) ?_
  refine a_iloadn_1 (pc := 0) dX12_longsIs_0 ?_
  refine cs_X12_100 (pc := 1) rfl dX12_longsIs_1 (Nat.le_of_ble_eq_true rfl) ?_
  refine m_isShelf (by omega) hz ?_
  refine b_if_ne (pc := 4) (tgt := 11) dX12_longsIs_4 (by decide) (fun c_4 => ?_) (fun c_4 => ?_)
  · obtain ⟨n_dd, h_dd, rfl⟩ := inR_of (by decide) c_4
    have i_dd : iN (nI n_dd) = n_dd := iN_nI (by omega)
    refine a_aloadn_0 (pc := 11) dX12_longsIs_11 ?_
    refine mg_71 hm rfl dX12_longsIs_12 ?_
    refine a_iloadn_1 (pc := 15) dX12_longsIs_15 ?_
    refine ml_shelf (x := gShelf b n_dd) hm dX12_longsIs_16 (by omega) rfl ?_
    refine a_if_ge (pc := 17) (tgt := 25) dX12_longsIs_17 (by decide) (fun c_17 => ?_) (fun c_17 => ?_)
    · refine a_aloadn_0 (pc := 25) dX12_longsIs_25 ?_
      refine mg_71 hm rfl dX12_longsIs_26 ?_
      refine a_iloadn_1 (pc := 29) dX12_longsIs_29 ?_
      refine ml_shelf (x := gShelf b n_dd) hm dX12_longsIs_30 (by omega) rfl ?_
      refine a_bipush (pc := 31) (v := nI 53) dX12_longsIs_31 (by decide) ?_
      refine a_icmp_ne (pc := 33) (tgt := 40) dX12_longsIs_33 (by decide) (fun c_33 => ?_) (fun c_33 => ?_)
      · refine a_bipush (pc := 40) (v := (-12)) dX12_longsIs_40 (by decide) ?_
        exact a_iret (pc := 42) dX12_longsIs_42 rfl (zf hz) (k _ (by unfold lgR; rw [c_4, if_pos rfl, i_dd, if_neg (Int32.not_lt.mpr c_17), if_neg c_33]))
      · refine a_iconst (pc := 36) (v := nI 1) dX12_longsIs_36 (by decide) ?_
        refine a_goto (pc := 37) (tgt := 42) dX12_longsIs_37 (by decide) ?_
        exact a_iret (pc := 42) dX12_longsIs_42 rfl (zf hz) (k _ (by unfold lgR; rw [c_4, if_pos rfl, i_dd, if_neg (Int32.not_lt.mpr c_17), if_pos c_33]))
    · refine a_bipush (pc := 20) (v := (-11)) dX12_longsIs_20 (by decide) ?_
      refine a_goto (pc := 22) (tgt := 42) dX12_longsIs_22 (by decide) ?_
      exact a_iret (pc := 42) dX12_longsIs_42 rfl (zf hz) (k _ (by unfold lgR; rw [c_4, if_pos rfl, i_dd, if_pos (Int32.not_le.mp c_17)]))
  · refine a_iconst (pc := 7) (v := (-1)) dX12_longsIs_7 (by decide) ?_
    refine a_goto (pc := 8) (tgt := 42) dX12_longsIs_8 (by decide) ?_
    exact a_iret (pc := 42) dX12_longsIs_42 rfl (zf hz) (k _ (by unfold lgR; rw [c_4]; rfl))
theorem lgR_1 {b : MB} {dd : Int32} (h : ¬ lgR b dd < 0) : ∃ q, q < 6 ∧ dd = nI q ∧ gShelf b q = nI 53 := by
  unfold lgR at h
  by_cases e : inR 0 (nI 5) dd = true
  · rw [if_pos e] at h
    obtain ⟨q, hq, rfl⟩ := inR_of (by decide) e
    rw [iN_nI (by omega)] at h
    by_cases h1 : gShelf b q < 0
    · rw [if_pos h1] at h; exact absurd (by decide : (-11 : Int32) < 0) h
    · rw [if_neg h1] at h
      by_cases h2 : gShelf b q = nI 53
      · exact ⟨q, by omega, rfl, h2⟩
      · rw [if_neg h2] at h; exact absurd (by decide : (-12 : Int32) < 0) h
  · rw [if_neg e] at h; exact absurd (by decide : (-1 : Int32) < 0) h
theorem lgR_m1 {b : MB} {dd : Int32} : lgR b dd = -1 ↔ inR 0 (nI 5) dd = false := by
  unfold lgR
  cases e : inR 0 (nI 5) dd with
  | false => simp
  | true =>
    simp only [if_true]
    constructor
    · intro h
      split at h
      · exact absurd h (by decide)
      · split at h
        · exact absurd h (by decide)
        · exact absurd h (by decide)
    · intro h; cases h
abbrev elO (b : MB) (q : Nat) : Nat → Int64 := fun i => gItems b (60 * q + i)
set_option maxRecDepth 100000 in
set_option maxHeartbeats 4000000 in
theorem m_judge {G : Cx} {d : Nat} {h h0 : List va_E} {b : MB} {p : MP} {t : MT} {o : MO} {Q : Option Value → List va_E → Prop} (hd : 73 ≤ d) (hz : gz G = false) (hm : MS G h0 h (b, p, t, o)) {v : Cv} {F : Lf} (hb : BV (b, p, t, o) v) (okv : okC v) (hL : LM b F) (hS : ShI b) {dd : Int32} (k0 : lgR b dd < 0 → Q (some (.int (lgR b dd))) h) (k1 : ∀ q, q < 6 → dd = nI q → gShelf b q = nI 53 → ∀ h1 p1 t1, MS G h0 h1 (b, p1, t1, o) → Q (some (.int (unl F v (elO b q) (gMany b q)))) h1) : AM G yX12_judge cX12_judge 2 (some .int) d 0 0 [.ref (gB G + 80), .int (dd)] h Q := by
  obtain ⟨d, rfl, he⟩ := dpos hd
  refine AM.of [some (.ref (gB G + 80)), some (.int (dd))] pnX12 (Nat.le_of_ble_eq_true rfl) (by simp [lsub, lvI, Value.category]) ?_
  refine a_aloadn_0 (pc := 0) dX12_judge_0 ?_
  refine a_iloadn_1 (pc := 1) dX12_judge_1 ?_
  refine cv_X12_281 (pc := 2) rfl dX12_judge_2 hm.2.2.1 (Nat.le_of_ble_eq_true rfl) ?_
  refine m_longsIs (by omega) hz hm (fun y1 hy1 => ?_)
  refine a_if_ge (pc := 5) (tgt := 16) dX12_judge_5 (by decide) (fun c_5 => ?_) (fun c_5 => ?_)
  · obtain ⟨q, hq, rfl, hs53⟩ := lgR_1 (show ¬ lgR b dd < 0 by rw [← hy1]; exact Int32.not_lt.mpr c_5)
    refine a_aloadn_0 (pc := 16) dX12_judge_16 ?_
    refine a_iloadn_1 (pc := 17) dX12_judge_17 ?_
    refine cv_X12_284 (pc := 18) rfl dX12_judge_18 hm.2.2.1 (Nat.le_of_ble_eq_true rfl) ?_
    refine m_firstFalse (by omega) hz hm hb okv hL (sz := gMany b q) (el := elO b q) ⟨hq, (hS.2 q hq).2, rfl, fun _ _ => rfl⟩ (fun y2 h2 p2 t2 hy2 hm2 => ?_)
    exact a_iret (pc := 21) dX12_judge_21 rfl (zf hz) (by rw [hy2]; exact k1 q hq rfl hs53 _ _ _ hm2)
  · refine a_aloadn_0 (pc := 8) dX12_judge_8 ?_
    refine a_iloadn_1 (pc := 9) dX12_judge_9 ?_
    refine cv_X12_281 (pc := 10) rfl dX12_judge_10 hm.2.2.1 (Nat.le_of_ble_eq_true rfl) ?_
    refine m_longsIs (by omega) hz hm (fun y2 hy2 => ?_)
    refine a_goto (pc := 13) (tgt := 21) dX12_judge_13 (by decide) ?_
    exact a_iret (pc := 21) dX12_judge_21 rfl (zf hz) (by rw [hy2]; exact k0 (by rw [← hy1]; exact Int32.not_le.mp c_5))
set_option maxRecDepth 100000 in
set_option maxHeartbeats 4000000 in
theorem m_draughts {G : Cx} {d : Nat} {h h0 : List va_E} {b : MB} {p : MP} {t : MT} {o : MO} {Q : Option Value → List va_E → Prop} (hd : 75 ≤ d) (hz : gz G = false) (hm : MS G h0 h (b, p, t, o)) {v : Cv} {F : Lf} (hb : BV (b, p, t, o) v) (okv : okC v) (hL : LM b F) (hS : ShI b) {dd r w : Int32} (kB : (inR 0 (nI 5) dd && (inR 0 (nI 35) r && inR 0 (nI 1) w)) = false → Q (some (.int (-1))) h) (k0 : (inR 0 (nI 5) dd && (inR 0 (nI 35) r && inR 0 (nI 1) w)) = true → lgR b dd < 0 → Q (some (.int (lgR b dd))) h) (k1 : ∀ q n m, q < 6 → dd = nI q → n < 36 → r = nI n → w = nI m → m ≤ 1 → gShelf b q = nI 53 → ∀ h1 p1 t1, MS G h0 h1 (b, p1, t1, o) → Q (some (.int (if m = 0 then nI (fitN F v (elO b q) (gMany b q) n 1 0) else fitL F v (elO b q) (gMany b q) n 1 0))) h1) : AM G yX12_draughts cX12_draughts 4 (some .int) d 0 0 [.ref (gB G + 80), .int (dd), .int (r), .int (w)] h Q := by
  obtain ⟨d, rfl, he⟩ := dpos hd
  refine AM.of [some (.ref (gB G + 80)), some (.int (dd)), some (.int (r)), some (.int (w))] pnX12 (Nat.le_of_ble_eq_true rfl) (by simp [lsub, lvI, Value.category]) ?_
  refine a_aloadn_0 (pc := 0) dX12_draughts_0 ?_
  refine a_iloadn_1 (pc := 1) dX12_draughts_1 ?_
  refine cv_X12_281 (pc := 2) rfl dX12_draughts_2 hm.2.2.1 (Nat.le_of_ble_eq_true rfl) ?_
  refine m_longsIs (by omega) hz hm (fun y1 hy1 => ?_)
  refine a_iconst (pc := 5) (v := (-1)) dX12_draughts_5 (by decide) ?_
  refine a_icmp_eq (pc := 6) (tgt := 27) dX12_draughts_6 (by decide) (fun c_6 => ?_) (fun c_6 => ?_)
  · have hin : inR 0 (nI 5) dd = false := lgR_m1.mp (hy1.symm.trans c_6)
    refine a_iconst (pc := 27) (v := (-1)) dX12_draughts_27 (by decide) ?_
    exact a_iret (pc := 28) dX12_draughts_28 rfl (zf hz) (kB (by rw [hin]; rfl))
  · have hin : inR 0 (nI 5) dd = true := by
      cases e : inR 0 (nI 5) dd with
      | true => rfl
      | false => exact absurd (hy1.trans (lgR_m1.mpr e)) c_6
    refine a_iloadn_2 (pc := 9) dX12_draughts_9 ?_
    refine a_i2l (pc := 10) dX12_draughts_10 ?_
    refine cs_X12_106 (pc := 11) rfl dX12_draughts_11 (Nat.le_of_ble_eq_true rfl) ?_
    refine m_isRoom (by omega) hz ?_
    refine a_topi (bI (inR 0 (nI 35) r)) (congrArg bI (inL_R 0 35 (by decide) (by decide) r)) ?_
    refine b_if_eq (pc := 14) (tgt := 27) dX12_draughts_14 (by decide) (fun c_14 => ?_) (fun c_14 => ?_)
    · refine a_iconst (pc := 27) (v := (-1)) dX12_draughts_27 (by decide) ?_
      exact a_iret (pc := 28) dX12_draughts_28 rfl (zf hz) (kB (by simp [c_6, c_14]))
    · obtain ⟨n_r, h_r, rfl⟩ := inR_of (by decide) c_14
      have i_r : iN (nI n_r) = n_r := iN_nI (by omega)
      refine a_iloadn_3 (pc := 17) dX12_draughts_17 ?_
      refine a_i2l (pc := 18) dX12_draughts_18 ?_
      refine a_lconst (pc := 19) (v := 0) dX12_draughts_19 (by decide) ?_
      refine a_lconst (pc := 20) (v := 1) dX12_draughts_20 (by decide) ?_
      refine cs_X12_96 (pc := 21) rfl dX12_draughts_21 (Nat.le_of_ble_eq_true rfl) ?_
      refine m_within (by omega) hz ?_
      refine a_topi (bI (inR 0 (nI 1) w)) (congrArg bI (inL_R 0 1 (by decide) (by decide) w)) ?_
      refine b_if_ne (pc := 24) (tgt := 29) dX12_draughts_24 (by decide) (fun c_24 => ?_) (fun c_24 => ?_)
      · obtain ⟨n_w, h_w, rfl⟩ := inR_of (by decide) c_24
        have i_w : iN (nI n_w) = n_w := iN_nI (by omega)
        refine a_aloadn_0 (pc := 29) dX12_draughts_29 ?_
        refine a_iloadn_1 (pc := 30) dX12_draughts_30 ?_
        refine cv_X12_281 (pc := 31) rfl dX12_draughts_31 hm.2.2.1 (Nat.le_of_ble_eq_true rfl) ?_
        refine m_longsIs (by omega) hz hm (fun y2 hy2 => ?_)
        refine a_if_ge (pc := 34) (tgt := 45) dX12_draughts_34 (by decide) (fun c_34 => ?_) (fun c_34 => ?_)
        · obtain ⟨q, hq, rfl, hs53⟩ := lgR_1 (show ¬ lgR b dd < 0 by rw [← hy2]; exact Int32.not_lt.mpr c_34)
          refine a_aloadn_0 (pc := 45) dX12_draughts_45 ?_
          refine a_iloadn_1 (pc := 46) dX12_draughts_46 ?_
          refine a_bipush (pc := 47) (v := nI 36) dX12_draughts_47 (by decide) ?_
          refine a_iloadn_2 (pc := 49) dX12_draughts_49 ?_
          refine n_iadd dX12_draughts_50 ?_
          refine a_iconst (pc := 51) (v := nI 0) dX12_draughts_51 (by decide) ?_
          refine a_iloadn_3 (pc := 52) dX12_draughts_52 ?_
          refine cv_X12_287 (pc := 53) rfl dX12_draughts_53 hm.2.2.1 (Nat.le_of_ble_eq_true rfl) ?_
          refine m_triesD (by omega) hz hm hb okv hL (sz := gMany b q) (el := elO b q) ⟨hq, (hS.2 q hq).2, rfl, fun _ _ => rfl⟩ (by omega) (by omega) (fun y3 h3 p3 t3 hy3 hm3 => ?_)
          exact a_iret (pc := 56) dX12_draughts_56 rfl (zf hz) (by rw [hy3]; exact k1 q n_r n_w hq rfl (by omega) rfl rfl (by omega) hs53 _ _ _ hm3)
        · refine a_aloadn_0 (pc := 37) dX12_draughts_37 ?_
          refine a_iloadn_1 (pc := 38) dX12_draughts_38 ?_
          refine cv_X12_281 (pc := 39) rfl dX12_draughts_39 hm.2.2.1 (Nat.le_of_ble_eq_true rfl) ?_
          refine m_longsIs (by omega) hz hm (fun y3 hy3 => ?_)
          refine a_goto (pc := 42) (tgt := 56) dX12_draughts_42 (by decide) ?_
          exact a_iret (pc := 56) dX12_draughts_56 rfl (zf hz) (by rw [hy3]; exact k0 (by simp [hin, c_6, c_14, i_r, c_24, i_w, c_34]) (by rw [← hy2]; exact Int32.not_le.mp c_34))
      · refine a_iconst (pc := 27) (v := (-1)) dX12_draughts_27 (by decide) ?_
        exact a_iret (pc := 28) dX12_draughts_28 rfl (zf hz) (kB (by simp [c_6, c_14, i_r, c_24]))
set_option maxRecDepth 100000 in
set_option maxHeartbeats 4000000 in
theorem m_holds {G : Cx} {d : Nat} {h h0 : List va_E} {b : MB} {p : MP} {t : MT} {o : MO} {Q : Option Value → List va_E → Prop} (hd : 75 ≤ d) (hz : gz G = false) (hm : MS G h0 h (b, p, t, o)) {v : Cv} {F : Lf} (hb : BV (b, p, t, o) v) (okv : okC v) (hL : LM b F) (hS : ShI b) {dd w : Int32} (kB : (inR 0 (nI 5) dd && inR 0 (nI 1) w) = false → Q (some (.int (-1))) h) (k0 : (inR 0 (nI 5) dd && inR 0 (nI 1) w) = true → lgR b dd < 0 → Q (some (.int (lgR b dd))) h) (k1 : ∀ q m, q < 6 → dd = nI q → w = nI m → m ≤ 1 → gShelf b q = nI 53 → ∀ h1 p1 t1, MS G h0 h1 (b, p1, t1, o) → Q (some (.int (if m = 0 then nI (fitN F v (elO b q) (gMany b q) 0 4 1) else fitL F v (elO b q) (gMany b q) 0 4 1))) h1) : AM G yX12_holds cX12_holds 3 (some .int) d 0 0 [.ref (gB G + 80), .int (dd), .int (w)] h Q := by
  obtain ⟨d, rfl, he⟩ := dpos hd
  refine AM.of [some (.ref (gB G + 80)), some (.int (dd)), some (.int (w))] pnX12 (Nat.le_of_ble_eq_true rfl) (by simp [lsub, lvI, Value.category]) ?_
  refine a_aloadn_0 (pc := 0) dX12_holds_0 ?_
  refine a_iloadn_1 (pc := 1) dX12_holds_1 ?_
  refine cv_X12_281 (pc := 2) rfl dX12_holds_2 hm.2.2.1 (Nat.le_of_ble_eq_true rfl) ?_
  refine m_longsIs (by omega) hz hm (fun y1 hy1 => ?_)
  refine a_iconst (pc := 5) (v := (-1)) dX12_holds_5 (by decide) ?_
  refine a_icmp_eq (pc := 6) (tgt := 19) dX12_holds_6 (by decide) (fun c_6 => ?_) (fun c_6 => ?_)
  · have hin : inR 0 (nI 5) dd = false := lgR_m1.mp (hy1.symm.trans c_6)
    refine a_iconst (pc := 19) (v := (-1)) dX12_holds_19 (by decide) ?_
    exact a_iret (pc := 20) dX12_holds_20 rfl (zf hz) (kB (by rw [hin]; rfl))
  · have hin : inR 0 (nI 5) dd = true := by
      cases e : inR 0 (nI 5) dd with
      | true => rfl
      | false => exact absurd (hy1.trans (lgR_m1.mpr e)) c_6
    refine a_iloadn_2 (pc := 9) dX12_holds_9 ?_
    refine a_i2l (pc := 10) dX12_holds_10 ?_
    refine a_lconst (pc := 11) (v := 0) dX12_holds_11 (by decide) ?_
    refine a_lconst (pc := 12) (v := 1) dX12_holds_12 (by decide) ?_
    refine cs_X12_96 (pc := 13) rfl dX12_holds_13 (Nat.le_of_ble_eq_true rfl) ?_
    refine m_within (by omega) hz ?_
    refine a_topi (bI (inR 0 (nI 1) w)) (congrArg bI (inL_R 0 1 (by decide) (by decide) w)) ?_
    refine b_if_ne (pc := 16) (tgt := 21) dX12_holds_16 (by decide) (fun c_16 => ?_) (fun c_16 => ?_)
    · obtain ⟨n_w, h_w, rfl⟩ := inR_of (by decide) c_16
      have i_w : iN (nI n_w) = n_w := iN_nI (by omega)
      refine a_aloadn_0 (pc := 21) dX12_holds_21 ?_
      refine a_iloadn_1 (pc := 22) dX12_holds_22 ?_
      refine cv_X12_281 (pc := 23) rfl dX12_holds_23 hm.2.2.1 (Nat.le_of_ble_eq_true rfl) ?_
      refine m_longsIs (by omega) hz hm (fun y2 hy2 => ?_)
      refine a_if_ge (pc := 26) (tgt := 37) dX12_holds_26 (by decide) (fun c_26 => ?_) (fun c_26 => ?_)
      · obtain ⟨q, hq, rfl, hs53⟩ := lgR_1 (show ¬ lgR b dd < 0 by rw [← hy2]; exact Int32.not_lt.mpr c_26)
        refine a_aloadn_0 (pc := 37) dX12_holds_37 ?_
        refine a_iloadn_1 (pc := 38) dX12_holds_38 ?_
        refine a_sipush (pc := 39) (v := nI 144) dX12_holds_39 (by decide) ?_
        refine a_iconst (pc := 42) (v := nI 1) dX12_holds_42 (by decide) ?_
        refine a_iloadn_2 (pc := 43) dX12_holds_43 ?_
        refine cv_X12_287 (pc := 44) rfl dX12_holds_44 hm.2.2.1 (Nat.le_of_ble_eq_true rfl) ?_
        refine m_triesH (by omega) hz hm hb okv hL (sz := gMany b q) (el := elO b q) ⟨hq, (hS.2 q hq).2, rfl, fun _ _ => rfl⟩ (by omega) (fun y3 h3 p3 t3 hy3 hm3 => ?_)
        exact a_iret (pc := 47) dX12_holds_47 rfl (zf hz) (by rw [hy3]; exact k1 q n_w hq rfl rfl (by omega) hs53 _ _ _ hm3)
      · refine a_aloadn_0 (pc := 29) dX12_holds_29 ?_
        refine a_iloadn_1 (pc := 30) dX12_holds_30 ?_
        refine cv_X12_281 (pc := 31) rfl dX12_holds_31 hm.2.2.1 (Nat.le_of_ble_eq_true rfl) ?_
        refine m_longsIs (by omega) hz hm (fun y3 hy3 => ?_)
        refine a_goto (pc := 34) (tgt := 47) dX12_holds_34 (by decide) ?_
        exact a_iret (pc := 47) dX12_holds_47 rfl (zf hz) (by rw [hy3]; exact k0 (by simp [hin, c_6, c_16, i_w, c_26]) (by rw [← hy2]; exact Int32.not_le.mp c_26))
    · refine a_iconst (pc := 19) (v := (-1)) dX12_holds_19 (by decide) ?_
      exact a_iret (pc := 20) dX12_holds_20 rfl (zf hz) (kB (by simp [c_6, c_16]))
