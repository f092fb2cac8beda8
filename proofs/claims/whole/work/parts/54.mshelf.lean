/-! THE REFERENCE: shelves -/
/-- shelves: what holds of them -/
def ShI (b : MB) : Prop := gBodies b ≤ 50 ∧ ∀ q, q < 6 → ((gShelf b q = -1 ∧ gMany b q = 0) ∨ (∃ n, n < gBodies b ∧ gShelf b q = nI n ∧ gMany b q = 0) ∨ (∃ s, s < 5 ∧ gShelf b q = nI (50 + s))) ∧ gMany b q ≤ 60
def refS (b : MB) (dd i : Int32) : Int32 := if inR 0 (nI 5) dd = true then (if gShelf b (iN dd) < 0 then -11 else if gShelf b (iN dd) < nI 50 then -12 else if 0 ≤ i ∧ i < nI (gMany b (iN dd)) then 0 else -13) else -1
def asS (s : Nat) (v : Int64) : Int64 := match s with
  | 0 => v.toInt32.toInt8.toInt32.toInt64
  | 1 => v.toInt32.toInt16.toInt32.toInt64
  | 2 => v.toInt32.toInt64
  | 4 => if v = 0 then 0 else 1
  | _ => v
set_option maxRecDepth 100000 in
set_option maxHeartbeats 4000000 in
theorem m_isShelf {G : Cx} {d : Nat} {h : List va_E} {Q : Option Value → List va_E → Prop} {x : Int32} (hd : 2 ≤ d) (hz : gz G = false) (k : Q (some (.int (bI (inR 0 (nI 5) x)))) h) : AM G yX12_isShelf cX12_isShelf 1 (some .boolean) d 0 0 [.int x] h Q := by
  obtain ⟨d, rfl, he⟩ := dpos hd
  refine AM.of [some (.int (x))] pnX12 (Nat.le_of_ble_eq_true rfl) (by simp [lsub, lvI, Value.category]) ?_
  refine a_iloadn_0 (pc := 0) dX12_isShelf_0 ?_
  refine a_i2l (pc := 1) dX12_isShelf_1 ?_
  refine a_lconst (pc := 2) (v := 0) dX12_isShelf_2 (by decide) ?_
  refine a_ldc2 (pc := 3) dX12_isShelf_3 w_1133 ?_
  refine cs_X12_96 (pc := 6) rfl dX12_isShelf_6 (Nat.le_of_ble_eq_true rfl) ?_
  refine m_within (by omega) hz ?_
  refine a_topi (bI (inR 0 (nI 5) x)) (congrArg bI (inL_R 0 5 (by decide) (by decide) x)) ?_
  exact a_zret (pc := 9) dX12_isShelf_9 rfl (by first | rfl | exact bI_nar _ | decide) (zf hz) k
set_option maxRecDepth 100000 in
set_option maxHeartbeats 4000000 in
theorem m_keep {G : Cx} {d : Nat} {h h0 : List va_E} {b : MB} {p : MP} {t : MT} {o : MO} {Q : Option Value → List va_E → Prop} (hd : 3 ≤ d) (hz : gz G = false) (hm : MS G h0 h (b, p, t, o)) {dd w : Int32} (hbs : gBodies b ≤ 50) (k0 : (inR 0 (nI 5) dd && (decide (w = -1) || inR 0 (nI (gBodies b) - nI 1) w)) = false → Q (some (.int (-1))) h) (k1 : ∀ q, q < 6 → dd = nI q → (w = -1 ∨ inR 0 (nI (gBodies b) - nI 1) w = true) → ∀ h1, MS G h0 h1 (uMany (uShelf b (upd (gShelf b) q w)) (va_up (gMany b) q 0), p, t, o) → Q (some (.int (nI 1))) h1) : AM G yX12_keep cX12_keep 3 (some .int) d 0 0 [.ref (gB G + 80), .int (dd), .int (w)] h Q := by
  obtain ⟨d, rfl, he⟩ := dpos hd
  refine AM.of [some (.ref (gB G + 80)), some (.int (dd)), some (.int (w))] pnX12 (Nat.le_of_ble_eq_true rfl) (by simp [lsub, lvI, Value.category]) ?_
  refine a_iloadn_1 (pc := 0) dX12_keep_0 ?_
  refine cs_X12_100 (pc := 1) rfl dX12_keep_1 (Nat.le_of_ble_eq_true rfl) ?_
  refine m_isShelf (by omega) hz ?_
  refine b_if_eq (pc := 4) (tgt := 20) dX12_keep_4 (by decide) (fun c_4 => ?_) (fun c_4 => ?_)
  · refine a_iconst (pc := 20) (v := (-1)) dX12_keep_20 (by decide) ?_
    exact a_iret (pc := 21) dX12_keep_21 rfl (zf hz) (k0 (by simp [c_4]))
  · obtain ⟨n_dd, h_dd, rfl⟩ := inR_of (by decide) c_4
    have i_dd : iN (nI n_dd) = n_dd := iN_nI (by omega)
    refine a_iloadn_2 (pc := 7) dX12_keep_7 ?_
    refine a_iconst (pc := 8) (v := (-1)) dX12_keep_8 (by decide) ?_
    refine a_icmp_eq (pc := 9) (tgt := 22) dX12_keep_9 (by decide) (fun c_9 => ?_) (fun c_9 => ?_)
    · refine a_aloadn_0 (pc := 22) dX12_keep_22 ?_
      refine mg_71 hm rfl dX12_keep_23 ?_
      refine a_iloadn_1 (pc := 26) dX12_keep_26 ?_
      refine a_iloadn_2 (pc := 27) dX12_keep_27 ?_
      refine ms_shelf (j := n_dd) (x := w) hm dX12_keep_28 (by omega) (fun h1 hm1 => ?_)
      refine a_aloadn_0 (pc := 29) dX12_keep_29 ?_
      refine mg_74 hm1 rfl dX12_keep_30 ?_
      refine a_iloadn_1 (pc := 33) dX12_keep_33 ?_
      refine a_iconst (pc := 34) (v := nI 0) dX12_keep_34 (by decide) ?_
      refine ms_many (j := n_dd) (x := 0) hm1 dX12_keep_35 (by omega) (fun h2 hm2 => ?_)
      refine a_iconst (pc := 36) (v := nI 1) dX12_keep_36 (by decide) ?_
      exact a_iret (pc := 37) dX12_keep_37 rfl (zf hz) (k1 n_dd (by omega) rfl (by first | exact Or.inl c_9 | exact Or.inr c_17) _ hm2)
    · refine a_aloadn_0 (pc := 12) dX12_keep_12 ?_
      refine a_iloadn_2 (pc := 13) dX12_keep_13 ?_
      refine cv_X12_330 (pc := 14) rfl dX12_keep_14 hm.2.2.1 (Nat.le_of_ble_eq_true rfl) ?_
      refine m_isBody (by omega) hz hm hbs ?_
      refine b_if_ne (pc := 17) (tgt := 22) dX12_keep_17 (by decide) (fun c_17 => ?_) (fun c_17 => ?_)
      · refine a_aloadn_0 (pc := 22) dX12_keep_22 ?_
        refine mg_71 hm rfl dX12_keep_23 ?_
        refine a_iloadn_1 (pc := 26) dX12_keep_26 ?_
        refine a_iloadn_2 (pc := 27) dX12_keep_27 ?_
        refine ms_shelf (j := n_dd) (x := w) hm dX12_keep_28 (by omega) (fun h1 hm1 => ?_)
        refine a_aloadn_0 (pc := 29) dX12_keep_29 ?_
        refine mg_74 hm1 rfl dX12_keep_30 ?_
        refine a_iloadn_1 (pc := 33) dX12_keep_33 ?_
        refine a_iconst (pc := 34) (v := nI 0) dX12_keep_34 (by decide) ?_
        refine ms_many (j := n_dd) (x := 0) hm1 dX12_keep_35 (by omega) (fun h2 hm2 => ?_)
        refine a_iconst (pc := 36) (v := nI 1) dX12_keep_36 (by decide) ?_
        exact a_iret (pc := 37) dX12_keep_37 rfl (zf hz) (k1 n_dd (by omega) rfl (by first | exact Or.inl c_9 | exact Or.inr c_17) _ hm2)
      · refine a_iconst (pc := 20) (v := (-1)) dX12_keep_20 (by decide) ?_
        exact a_iret (pc := 21) dX12_keep_21 rfl (zf hz) (k0 (by simp [c_4, i_dd, c_9, c_17]))
set_option maxRecDepth 100000 in
set_option maxHeartbeats 4000000 in
theorem m_row {G : Cx} {d : Nat} {h h0 : List va_E} {b : MB} {p : MP} {t : MT} {o : MO} {Q : Option Value → List va_E → Prop} (hd : 3 ≤ d) (hz : gz G = false) (hm : MS G h0 h (b, p, t, o)) {dd s n : Int32} (k0 : (inR 0 (nI 5) dd && (inR 0 (nI 4) s && decide (n ≤ nI 60))) = false → Q (some (.int (-1))) h) (k2 : (inR 0 (nI 5) dd && (inR 0 (nI 4) s && decide (n ≤ nI 60))) = true → n < 0 → Q (some (.int (-14))) h) (k1 : ∀ q s1 m, q < 6 → dd = nI q → s1 < 5 → s = nI s1 → m ≤ 60 → n = nI m → ∀ f : Nat → Int64, (∀ i, i < 60 → f (60 * q + i) = 0) → (∀ j, j < 60 * q ∨ 60 * q + 60 ≤ j → f j = gItems b j) → ∀ h1, MS G h0 h1 (uItems (uMany (uShelf b (upd (gShelf b) q (nI (50 + s1)))) (va_up (gMany b) q m)) f, p, t, o) → Q (some (.int (nI 1))) h1) : AM G yX12_row cX12_row 5 (some .int) d 0 0 [.ref (gB G + 80), .int (dd), .int (s), .int (n)] h Q := by
  obtain ⟨d, rfl, he⟩ := dpos hd
  refine AM.of [some (.ref (gB G + 80)), some (.int (dd)), some (.int (s)), some (.int (n)), none] pnX12 (Nat.le_of_ble_eq_true rfl) (by simp [lsub, lvI, Value.category]) ?_
  refine a_iloadn_1 (pc := 0) dX12_row_0 ?_
  refine cs_X12_100 (pc := 1) rfl dX12_row_1 (Nat.le_of_ble_eq_true rfl) ?_
  refine m_isShelf (by omega) hz ?_
  refine b_if_eq (pc := 4) (tgt := 25) dX12_row_4 (by decide) (fun c_4 => ?_) (fun c_4 => ?_)
  · refine a_iconst (pc := 25) (v := (-1)) dX12_row_25 (by decide) ?_
    exact a_iret (pc := 26) dX12_row_26 rfl (zf hz) (k0 (by simp [c_4]))
  · obtain ⟨n_dd, h_dd, rfl⟩ := inR_of (by decide) c_4
    have i_dd : iN (nI n_dd) = n_dd := iN_nI (by omega)
    refine a_iloadn_2 (pc := 7) dX12_row_7 ?_
    refine a_i2l (pc := 8) dX12_row_8 ?_
    refine a_lconst (pc := 9) (v := 0) dX12_row_9 (by decide) ?_
    refine a_ldc2 (pc := 10) dX12_row_10 w_1152 ?_
    refine cs_X12_96 (pc := 13) rfl dX12_row_13 (Nat.le_of_ble_eq_true rfl) ?_
    refine m_within (by omega) hz ?_
    refine a_topi (bI (inR 0 (nI 4) s)) (congrArg bI (inL_R 0 4 (by decide) (by decide) s)) ?_
    refine b_if_eq (pc := 16) (tgt := 25) dX12_row_16 (by decide) (fun c_16 => ?_) (fun c_16 => ?_)
    · refine a_iconst (pc := 25) (v := (-1)) dX12_row_25 (by decide) ?_
      exact a_iret (pc := 26) dX12_row_26 rfl (zf hz) (k0 (by simp [c_4, i_dd, c_16]))
    · obtain ⟨n_s, h_s, rfl⟩ := inR_of (by decide) c_16
      have i_s : iN (nI n_s) = n_s := iN_nI (by omega)
      refine a_iloadn_3 (pc := 19) dX12_row_19 ?_
      refine a_bipush (pc := 20) (v := nI 60) dX12_row_20 (by decide) ?_
      refine a_icmp_le (pc := 22) (tgt := 27) dX12_row_22 (by decide) (fun c_22 => ?_) (fun c_22 => ?_)
      · refine a_iloadn_3 (pc := 27) dX12_row_27 ?_
        refine a_if_ge (pc := 28) (tgt := 34) dX12_row_28 (by decide) (fun c_28 => ?_) (fun c_28 => ?_)
        · obtain ⟨m, hm31, rfl⟩ := nI_of (Int32.not_lt.mpr c_28)
          have hm60 : m ≤ 60 := (nI_leI hm31 (by decide)).mp c_22
          refine a_aloadn_0 (pc := 34) dX12_row_34 ?_
          refine mg_71 hm rfl dX12_row_35 ?_
          refine a_iloadn_1 (pc := 38) dX12_row_38 ?_
          refine a_bipush (pc := 39) (v := nI 50) dX12_row_39 (by decide) ?_
          refine a_iloadn_2 (pc := 41) dX12_row_41 ?_
          refine n_iadd dX12_row_42 ?_
          refine ms_shelf (j := n_dd) (x := nI (50 + n_s)) hm dX12_row_43 (by omega) (fun h1 hm1 => ?_)
          refine a_aloadn_0 (pc := 44) dX12_row_44 ?_
          refine mg_74 hm1 rfl dX12_row_45 ?_
          refine a_iloadn_1 (pc := 48) dX12_row_48 ?_
          refine a_iloadn_3 (pc := 49) dX12_row_49 ?_
          refine ms_many (j := n_dd) (x := m) hm1 dX12_row_50 (by omega) (fun h2 hm2 => ?_)
          refine a_bipush (pc := 51) (v := nI 60) dX12_row_51 (by decide) ?_
          refine a_iloadn_1 (pc := 53) dX12_row_53 ?_
          refine n_imul dX12_row_54 ?_
          refine a_istore_4 (pc := 55) dX12_row_55 (by decide) (by first | rfl | trivial) ?_
          have lp : ∀ (n : Nat) (i : Nat) (h1 : List va_E) (f : Nat → Int64), 60 * n_dd + 60 - i < n → (60 * n_dd ≤ i ∧ i ≤ 60 * n_dd + 60) → (∀ j, 60 * n_dd ≤ j → j < i → f j = 0) → (∀ j, j < 60 * n_dd ∨ 60 * n_dd + 60 ≤ j → f j = gItems b j) → (MS G h0 h1 (uItems (uMany (uShelf b (upd (gShelf b) n_dd (nI (50 + n_s)))) (va_up (gMany b) n_dd m)) f, p, t, o)) → AW G yX12_row cX12_row 5 (some .int) (rmx (d + 1) 0 0) (ZQ G 0 0 (h.length + 0) Q) 0 0 57 [some (.ref (gB G + 80)), some (.int (nI (n_dd))), some (.int (nI (n_s))), some (.int (nI (m))), some (.int (nI (i)))] [] h1 := by
            intro n
            induction n with
            | zero => intro i h1 f hn; exact absurd hn (Nat.not_lt_zero _)
            | succ n ih =>
              intro i h1 f hn hi hf hf2 hm1
              refine a_iload_4 (pc := 57) dX12_row_57 ?_
              refine a_bipush (pc := 59) (v := nI 60) dX12_row_59 (by decide) ?_
              refine a_iloadn_1 (pc := 61) dX12_row_61 ?_
              refine n_imul dX12_row_62 ?_
              refine a_bipush (pc := 63) (v := nI 60) dX12_row_63 (by decide) ?_
              refine n_iadd dX12_row_65 ?_
              refine n_icmp_ge (tgt := 83) dX12_row_66 (by decide) (by omega) (by omega) (fun c_66 => ?_) (fun c_66 => ?_)
              · refine a_iconst (pc := 83) (v := nI 1) dX12_row_83 (by decide) ?_
                exact a_iret (pc := 84) dX12_row_84 rfl (zf hz) (k1 n_dd n_s m (by omega) rfl (by omega) rfl hm60 rfl f (fun j hj => hf (60 * n_dd + j) (by omega) (by omega)) hf2 _ hm1)
              · refine a_aloadn_0 (pc := 69) dX12_row_69 ?_
                refine mg_77 hm1 rfl dX12_row_70 ?_
                refine a_iload_4 (pc := 73) dX12_row_73 ?_
                refine a_lconst (pc := 75) (v := 0) dX12_row_75 (by decide) ?_
                refine ms_items (j := i) (x := 0) hm1 dX12_row_76 (by omega) (fun h6 hm6 => ?_)
                refine a_iinc_4 (pc := 77) (v := nI (i + 1)) dX12_row_77 (nI_add _ _) (by decide) (by first | rfl | trivial) ?_
                refine a_goto (pc := 80) (tgt := 57) dX12_row_80 (by decide) ?_
                exact ih (i + 1) _ _ (by omega) (by omega) (fun j a1 a2 => by unfold vp_updL; split; (· rfl); (· exact hf j a1 (by omega))) (fun j hj => by unfold vp_updL; rw [if_neg (by omega)]; exact hf2 j hj) hm6
          exact lp 61 (60 * n_dd) _ (gItems b) (by omega) (by omega) (fun j a1 a2 => absurd a2 (by omega)) (fun _ _ => rfl) hm2
        · refine a_bipush (pc := 31) (v := (-14)) dX12_row_31 (by decide) ?_
          exact a_iret (pc := 33) dX12_row_33 rfl (zf hz) (k2 (by simp [c_4, i_dd, c_16, i_s, c_22, c_28]) (Int32.not_le.mp c_28))
      · refine a_iconst (pc := 25) (v := (-1)) dX12_row_25 (by decide) ?_
        exact a_iret (pc := 26) dX12_row_26 rfl (zf hz) (k0 (by simp [c_4, i_dd, c_16, i_s, c_22]))
set_option maxRecDepth 100000 in
set_option maxHeartbeats 4000000 in
theorem m_refusal {G : Cx} {d : Nat} {h h0 : List va_E} {b : MB} {p : MP} {t : MT} {o : MO} {Q : Option Value → List va_E → Prop} (hd : 3 ≤ d) (hz : gz G = false) (hm : MS G h0 h (b, p, t, o)) {dd i : Int32} (hS : ShI b) (k : ∀ y, y = refS b dd i → Q (some (.int y)) h) : AM G yX12_refusal cX12_refusal 3 (some .int) d 0 0 [.ref (gB G + 80), .int (dd), .int (i)] h Q := by
  obtain ⟨d, rfl, he⟩ := dpos hd
  refine AM.of [some (.ref (gB G + 80)), some (.int (dd)), some (.int (i))] pnX12 (Nat.le_of_ble_eq_true rfl) (by simp [lsub, lvI, Value.category]) ?_
  refine a_iloadn_1 (pc := 0) dX12_refusal_0 ?_
  refine cs_X12_100 (pc := 1) rfl dX12_refusal_1 (Nat.le_of_ble_eq_true rfl) ?_
  refine m_isShelf (by omega) hz ?_
  refine b_if_ne (pc := 4) (tgt := 9) dX12_refusal_4 (by decide) (fun c_4 => ?_) (fun c_4 => ?_)
  · obtain ⟨n_dd, h_dd, rfl⟩ := inR_of (by decide) c_4
    have i_dd : iN (nI n_dd) = n_dd := iN_nI (by omega)
    refine a_aloadn_0 (pc := 9) dX12_refusal_9 ?_
    refine mg_71 hm rfl dX12_refusal_10 ?_
    refine a_iloadn_1 (pc := 13) dX12_refusal_13 ?_
    refine ml_shelf (x := gShelf b n_dd) hm dX12_refusal_14 (by omega) rfl ?_
    have sm9 := (hS.2 n_dd (by omega)).2
    refine a_if_ge (pc := 15) (tgt := 21) dX12_refusal_15 (by decide) (fun c_15 => ?_) (fun c_15 => ?_)
    · refine a_aloadn_0 (pc := 21) dX12_refusal_21 ?_
      refine mg_71 hm rfl dX12_refusal_22 ?_
      refine a_iloadn_1 (pc := 25) dX12_refusal_25 ?_
      refine ml_shelf (x := gShelf b n_dd) hm dX12_refusal_26 (by omega) rfl ?_
      refine a_bipush (pc := 27) (v := nI 50) dX12_refusal_27 (by decide) ?_
      refine a_icmp_ge (pc := 29) (tgt := 35) dX12_refusal_29 (by decide) (fun c_29 => ?_) (fun c_29 => ?_)
      · refine a_iloadn_2 (pc := 35) dX12_refusal_35 ?_
        refine a_if_lt (pc := 36) (tgt := 53) dX12_refusal_36 (by decide) (fun c_36 => ?_) (fun c_36 => ?_)
        · refine a_bipush (pc := 53) (v := (-13)) dX12_refusal_53 (by decide) ?_
          exact a_iret (pc := 55) dX12_refusal_55 rfl (zf hz) (k _ (by unfold refS; rw [c_4, if_pos rfl, i_dd, if_neg (Int32.not_lt.mpr c_15), if_neg (Int32.not_lt.mpr c_29), if_neg (fun z => absurd c_36 (Int32.not_lt.mpr z.1))]))
        · refine a_iloadn_2 (pc := 39) dX12_refusal_39 ?_
          refine a_aloadn_0 (pc := 40) dX12_refusal_40 ?_
          refine mg_74 hm rfl dX12_refusal_41 ?_
          refine a_iloadn_1 (pc := 44) dX12_refusal_44 ?_
          refine ml_many (x := gMany b n_dd) hm dX12_refusal_45 (by omega) rfl ?_
          refine a_icmp_ge (pc := 46) (tgt := 53) dX12_refusal_46 (by decide) (fun c_46 => ?_) (fun c_46 => ?_)
          · refine a_bipush (pc := 53) (v := (-13)) dX12_refusal_53 (by decide) ?_
            exact a_iret (pc := 55) dX12_refusal_55 rfl (zf hz) (k _ (by unfold refS; rw [c_4, if_pos rfl, i_dd, if_neg (Int32.not_lt.mpr c_15), if_neg (Int32.not_lt.mpr c_29), if_neg (fun z => absurd c_46 (Int32.not_le.mpr z.2))]))
          · refine a_iconst (pc := 49) (v := nI 0) dX12_refusal_49 (by decide) ?_
            refine a_goto (pc := 50) (tgt := 55) dX12_refusal_50 (by decide) ?_
            exact a_iret (pc := 55) dX12_refusal_55 rfl (zf hz) (k _ (by unfold refS; rw [c_4, if_pos rfl, i_dd, if_neg (Int32.not_lt.mpr c_15), if_neg (Int32.not_lt.mpr c_29), if_pos ⟨Int32.not_lt.mp c_36, Int32.not_le.mp c_46⟩]; rfl))
      · refine a_bipush (pc := 32) (v := (-12)) dX12_refusal_32 (by decide) ?_
        exact a_iret (pc := 34) dX12_refusal_34 rfl (zf hz) (k _ (by unfold refS; rw [c_4, if_pos rfl, i_dd, if_neg (Int32.not_lt.mpr c_15), if_pos (Int32.not_le.mp c_29)]))
    · refine a_bipush (pc := 18) (v := (-11)) dX12_refusal_18 (by decide) ?_
      exact a_iret (pc := 20) dX12_refusal_20 rfl (zf hz) (k _ (by unfold refS; rw [c_4, if_pos rfl, i_dd, if_pos (Int32.not_le.mp c_15)]))
  · refine a_iconst (pc := 7) (v := (-1)) dX12_refusal_7 (by decide) ?_
    exact a_iret (pc := 8) dX12_refusal_8 rfl (zf hz) (k _ (by unfold refS; rw [c_4]; rfl))
set_option maxRecDepth 100000 in
set_option maxHeartbeats 4000000 in
theorem m_asSort {G : Cx} {d : Nat} {h : List va_E} {Q : Option Value → List va_E → Prop} {s : Nat} {v : Int64} (hd : 1 ≤ d) (hz : gz G = false) (hs : s < 5) (k : Q (some (.long (asS s v))) h) : AM G yX12_asSort cX12_asSort 3 (some .long) d 0 0 [.int (nI s), .long v] h Q := by
  obtain ⟨d, rfl, he⟩ := dpos hd
  rcases (show s = 0 ∨ s = 1 ∨ s = 2 ∨ s = 3 ∨ s = 4 by omega) with rfl | rfl | rfl | rfl | rfl
  · refine AM.of [some (.int (nI 0)), some (.long v), none] pnX12 (Nat.le_of_ble_eq_true rfl) (by simp [lsub, lvI, Value.category]) ?_
    refine a_iloadn_0 (pc := 0) dX12_asSort_0 ?_
    refine n_if_ne (tgt := 11) dX12_asSort_1 (by decide) (by decide) (fun c_1 => by omega) (fun c_1 => ?_)
    refine a_lloadn_1 (pc := 4) dX12_asSort_4 ?_
    refine a_l2i (pc := 5) dX12_asSort_5 ?_
    refine a_i2b (pc := 6) dX12_asSort_6 ?_
    refine a_i2l (pc := 7) dX12_asSort_7 ?_
    refine a_goto (pc := 8) (tgt := 54) dX12_asSort_8 (by decide) ?_
    exact a_lret (pc := 54) dX12_asSort_54 rfl (zf hz) k
  · refine AM.of [some (.int (nI 1)), some (.long v), none] pnX12 (Nat.le_of_ble_eq_true rfl) (by simp [lsub, lvI, Value.category]) ?_
    refine a_iloadn_0 (pc := 0) dX12_asSort_0 ?_
    refine n_if_ne (tgt := 11) dX12_asSort_1 (by decide) (by decide) (fun c_1 => ?_) (fun c_1 => by omega)
    refine a_iloadn_0 (pc := 11) dX12_asSort_11 ?_
    refine a_iconst (pc := 12) (v := nI 1) dX12_asSort_12 (by decide) ?_
    refine n_icmp_ne (tgt := 23) dX12_asSort_13 (by decide) (by decide) (by decide) (fun c_13 => by omega) (fun c_13 => ?_)
    refine a_lloadn_1 (pc := 16) dX12_asSort_16 ?_
    refine a_l2i (pc := 17) dX12_asSort_17 ?_
    refine a_i2s (pc := 18) dX12_asSort_18 ?_
    refine a_i2l (pc := 19) dX12_asSort_19 ?_
    refine a_goto (pc := 20) (tgt := 54) dX12_asSort_20 (by decide) ?_
    exact a_lret (pc := 54) dX12_asSort_54 rfl (zf hz) k
  · refine AM.of [some (.int (nI 2)), some (.long v), none] pnX12 (Nat.le_of_ble_eq_true rfl) (by simp [lsub, lvI, Value.category]) ?_
    refine a_iloadn_0 (pc := 0) dX12_asSort_0 ?_
    refine n_if_ne (tgt := 11) dX12_asSort_1 (by decide) (by decide) (fun c_1 => ?_) (fun c_1 => by omega)
    refine a_iloadn_0 (pc := 11) dX12_asSort_11 ?_
    refine a_iconst (pc := 12) (v := nI 1) dX12_asSort_12 (by decide) ?_
    refine n_icmp_ne (tgt := 23) dX12_asSort_13 (by decide) (by decide) (by decide) (fun c_13 => ?_) (fun c_13 => by omega)
    refine a_iloadn_0 (pc := 23) dX12_asSort_23 ?_
    refine a_iconst (pc := 24) (v := nI 2) dX12_asSort_24 (by decide) ?_
    refine n_icmp_ne (tgt := 34) dX12_asSort_25 (by decide) (by decide) (by decide) (fun c_25 => by omega) (fun c_25 => ?_)
    refine a_lloadn_1 (pc := 28) dX12_asSort_28 ?_
    refine a_l2i (pc := 29) dX12_asSort_29 ?_
    refine a_i2l (pc := 30) dX12_asSort_30 ?_
    refine a_goto (pc := 31) (tgt := 54) dX12_asSort_31 (by decide) ?_
    exact a_lret (pc := 54) dX12_asSort_54 rfl (zf hz) k
  · refine AM.of [some (.int (nI 3)), some (.long v), none] pnX12 (Nat.le_of_ble_eq_true rfl) (by simp [lsub, lvI, Value.category]) ?_
    refine a_iloadn_0 (pc := 0) dX12_asSort_0 ?_
    refine n_if_ne (tgt := 11) dX12_asSort_1 (by decide) (by decide) (fun c_1 => ?_) (fun c_1 => by omega)
    refine a_iloadn_0 (pc := 11) dX12_asSort_11 ?_
    refine a_iconst (pc := 12) (v := nI 1) dX12_asSort_12 (by decide) ?_
    refine n_icmp_ne (tgt := 23) dX12_asSort_13 (by decide) (by decide) (by decide) (fun c_13 => ?_) (fun c_13 => by omega)
    refine a_iloadn_0 (pc := 23) dX12_asSort_23 ?_
    refine a_iconst (pc := 24) (v := nI 2) dX12_asSort_24 (by decide) ?_
    refine n_icmp_ne (tgt := 34) dX12_asSort_25 (by decide) (by decide) (by decide) (fun c_25 => ?_) (fun c_25 => by omega)
    refine a_iloadn_0 (pc := 34) dX12_asSort_34 ?_
    refine a_iconst (pc := 35) (v := nI 4) dX12_asSort_35 (by decide) ?_
    refine n_icmp_ne (tgt := 53) dX12_asSort_36 (by decide) (by decide) (by decide) (fun c_36 => ?_) (fun c_36 => by omega)
    refine a_lloadn_1 (pc := 53) dX12_asSort_53 ?_
    exact a_lret (pc := 54) dX12_asSort_54 rfl (zf hz) k
  · refine AM.of [some (.int (nI 4)), some (.long v), none] pnX12 (Nat.le_of_ble_eq_true rfl) (by simp [lsub, lvI, Value.category]) ?_
    refine a_iloadn_0 (pc := 0) dX12_asSort_0 ?_
    refine n_if_ne (tgt := 11) dX12_asSort_1 (by decide) (by decide) (fun c_1 => ?_) (fun c_1 => by omega)
    refine a_iloadn_0 (pc := 11) dX12_asSort_11 ?_
    refine a_iconst (pc := 12) (v := nI 1) dX12_asSort_12 (by decide) ?_
    refine n_icmp_ne (tgt := 23) dX12_asSort_13 (by decide) (by decide) (by decide) (fun c_13 => ?_) (fun c_13 => by omega)
    refine a_iloadn_0 (pc := 23) dX12_asSort_23 ?_
    refine a_iconst (pc := 24) (v := nI 2) dX12_asSort_24 (by decide) ?_
    refine n_icmp_ne (tgt := 34) dX12_asSort_25 (by decide) (by decide) (by decide) (fun c_25 => ?_) (fun c_25 => by omega)
    refine a_iloadn_0 (pc := 34) dX12_asSort_34 ?_
    refine a_iconst (pc := 35) (v := nI 4) dX12_asSort_35 (by decide) ?_
    refine n_icmp_ne (tgt := 53) dX12_asSort_36 (by decide) (by decide) (by decide) (fun c_36 => by omega) (fun c_36 => ?_)
    refine a_lloadn_1 (pc := 39) dX12_asSort_39 ?_
    refine a_lconst (pc := 40) (v := 0) dX12_asSort_40 (by decide) ?_
    refine a_lcmp (pc := 41) dX12_asSort_41 ?_
    refine a_if_eq (pc := 42) (tgt := 49) dX12_asSort_42 (by decide) (fun c_42 => ?_) (fun c_42 => ?_)
    · rw [lg_cmp0] at c_42
      refine a_lconst (pc := 49) (v := 0) dX12_asSort_49 (by decide) ?_
      refine a_goto (pc := 50) (tgt := 54) dX12_asSort_50 (by decide) ?_
      exact a_lret (pc := 54) dX12_asSort_54 rfl (zf hz) (by rw [show asS 4 v = 0 from if_pos c_42] at k; exact k)
    · rw [lg_cmp0] at c_42
      refine a_lconst (pc := 45) (v := 1) dX12_asSort_45 (by decide) ?_
      refine a_goto (pc := 46) (tgt := 54) dX12_asSort_46 (by decide) ?_
      exact a_lret (pc := 54) dX12_asSort_54 rfl (zf hz) (by rw [show asS 4 v = 1 from if_neg c_42] at k; exact k)

theorem refS_0 {b : MB} {dd i : Int32} (hS : ShI b) (h : refS b dd i = 0) : ∃ q n s, q < 6 ∧ dd = nI q ∧ i = nI n ∧ n < gMany b q ∧ n < 60 ∧ s < 5 ∧ gShelf b q = nI (50 + s) := by
  unfold refS at h
  by_cases e : inR 0 (nI 5) dd = true
  · rw [if_pos e] at h
    obtain ⟨q, hq, rfl⟩ := inR_of (by decide) e
    rw [iN_nI (by omega)] at h
    by_cases h1 : gShelf b q < 0
    · rw [if_pos h1] at h; exact absurd h (by decide)
    · rw [if_neg h1] at h
      by_cases h2 : gShelf b q < nI 50
      · rw [if_pos h2] at h; exact absurd h (by decide)
      · rw [if_neg h2] at h
        by_cases h3 : 0 ≤ i ∧ i < nI (gMany b q)
        · obtain ⟨n, hn, rfl⟩ := nI_of (Int32.not_lt.mpr h3.1)
          have hm := (hS.2 q (by omega)).2
          have hn2 := (nI_ltI hn (by omega)).mp h3.2
          rcases (hS.2 q (by omega)).1 with ⟨g, -⟩ | ⟨m, hm2, g, -⟩ | ⟨s, hs, g⟩
          · rw [g] at h1; exact absurd (by decide : (-1 : Int32) < 0) h1
          · have := hS.1
            rw [g, nI_ltI (by omega) (by decide)] at h2; omega
          · exact ⟨q, n, s, by omega, rfl, rfl, hn2, by omega, hs, g⟩
        · rw [if_neg h3] at h; exact absurd h (by decide)
  · rw [if_neg e] at h; exact absurd h (by decide)
set_option maxRecDepth 100000 in
set_option maxHeartbeats 4000000 in
theorem m_put {G : Cx} {d : Nat} {h h0 : List va_E} {b : MB} {p : MP} {t : MT} {o : MO} {Q : Option Value → List va_E → Prop} (hd : 5 ≤ d) (hz : gz G = false) (hm : MS G h0 h (b, p, t, o)) {dd i : Int32} {v : Int64} (hS : ShI b) (k0 : ¬ refS b dd i = 0 → Q (some (.int (refS b dd i))) h) (k1 : ∀ q n s, q < 6 → dd = nI q → i = nI n → n < gMany b q → s < 5 → gShelf b q = nI (50 + s) → ∀ h1, MS G h0 h1 (uItems b (vp_updL (gItems b) (60 * q + n) (asS s v)), p, t, o) → Q (some (.int (nI 1))) h1) : AM G yX12_put cX12_put 6 (some .int) d 0 0 [.ref (gB G + 80), .int (dd), .int (i), .long (v)] h Q := by
  obtain ⟨d, rfl, he⟩ := dpos hd
  refine AM.of [some (.ref (gB G + 80)), some (.int (dd)), some (.int (i)), some (.long (v)), none, none] pnX12 (Nat.le_of_ble_eq_true rfl) (by simp [lsub, lvI, Value.category]) ?_
  refine a_aloadn_0 (pc := 0) dX12_put_0 ?_
  refine a_iloadn_1 (pc := 1) dX12_put_1 ?_
  refine a_iloadn_2 (pc := 2) dX12_put_2 ?_
  refine cv_X12_333 (pc := 3) rfl dX12_put_3 hm.2.2.1 (Nat.le_of_ble_eq_true rfl) ?_
  refine m_refusal (by omega) hz hm hS (fun y hy => ?_)
  refine a_istore_5 (pc := 6) dX12_put_6 (by decide) (by first | rfl | trivial) ?_
  refine a_iload_5 (pc := 8) dX12_put_8 ?_
  refine a_if_ne (pc := 10) (tgt := 37) dX12_put_10 (by decide) (fun c_10 => ?_) (fun c_10 => ?_)
  · 
    refine a_iload_5 (pc := 37) dX12_put_37 ?_
    refine a_if_ne (pc := 39) (tgt := 46) dX12_put_39 (by decide) (fun c_39 => ?_) (fun c_39 => absurd c_39 c_10)
    refine a_iload_5 (pc := 46) dX12_put_46 ?_
    exact a_iret (pc := 48) dX12_put_48 rfl (zf hz) (by rw [hy]; exact k0 (fun z => c_10 (hy.trans z)))
  · obtain ⟨q, n, s, hq, rfl, rfl, hn, hn6, hs, hsh⟩ := refS_0 hS (hy.symm.trans c_10)
    refine a_aloadn_0 (pc := 13) dX12_put_13 ?_
    refine mg_77 hm rfl dX12_put_14 ?_
    refine a_bipush (pc := 17) (v := nI 60) dX12_put_17 (by decide) ?_
    refine a_iloadn_1 (pc := 19) dX12_put_19 ?_
    refine n_imul dX12_put_20 ?_
    refine a_iloadn_2 (pc := 21) dX12_put_21 ?_
    refine n_iadd dX12_put_22 ?_
    refine a_aloadn_0 (pc := 23) dX12_put_23 ?_
    refine mg_71 hm rfl dX12_put_24 ?_
    refine a_iloadn_1 (pc := 27) dX12_put_27 ?_
    refine ml_shelf (x := nI (50 + s)) hm dX12_put_28 (by omega) hsh ?_
    refine a_bipush (pc := 29) (v := nI 50) dX12_put_29 (by decide) ?_
    refine n_isub dX12_put_31 (by omega) ?_
    refine a_topi (nI (s)) (congrArg nI (by omega)) ?_
    refine a_lloadn_3 (pc := 32) dX12_put_32 ?_
    refine cs_X12_336 (pc := 33) rfl dX12_put_33 (Nat.le_of_ble_eq_true rfl) ?_
    refine m_asSort (by omega) hz (by omega) ?_
    refine ms_items (j := (60 * q + n)) (x := asS s v) hm dX12_put_36 (by omega) (fun h1 hm1 => ?_)
    refine a_iload_5 (pc := 37) dX12_put_37 ?_
    refine a_if_ne (pc := 39) (tgt := 46) dX12_put_39 (by decide) (fun c_39 => absurd c_10 c_39) (fun c_39 => ?_)
    refine a_iconst (pc := 42) (v := nI 1) dX12_put_42 (by decide) ?_
    refine a_goto (pc := 43) (tgt := 48) dX12_put_43 (by decide) ?_
    exact a_iret (pc := 48) dX12_put_48 rfl (zf hz) (k1 q n s hq rfl rfl hn hs hsh _ hm1)
set_option maxRecDepth 100000 in
set_option maxHeartbeats 4000000 in
theorem m_element {G : Cx} {d : Nat} {h h0 : List va_E} {b : MB} {p : MP} {t : MT} {o : MO} {Q : Option Value → List va_E → Prop} (hd : 5 ≤ d) (hz : gz G = false) (hm : MS G h0 h (b, p, t, o)) {dd i : Int32} (hS : ShI b) (k0 : ¬ refS b dd i = 0 → Q (some (.long (-9223372036854775808))) h) (k1 : ∀ q n s, q < 6 → dd = nI q → i = nI n → n < gMany b q → s < 5 → gShelf b q = nI (50 + s) → Q (some (.long (gItems b (60 * q + n)))) h) : AM G yX12_element cX12_element 3 (some .long) d 0 0 [.ref (gB G + 80), .int (dd), .int (i)] h Q := by
  obtain ⟨d, rfl, he⟩ := dpos hd
  refine AM.of [some (.ref (gB G + 80)), some (.int (dd)), some (.int (i))] pnX12 (Nat.le_of_ble_eq_true rfl) (by simp [lsub, lvI, Value.category]) ?_
  refine a_aloadn_0 (pc := 0) dX12_element_0 ?_
  refine a_iloadn_1 (pc := 1) dX12_element_1 ?_
  refine a_iloadn_2 (pc := 2) dX12_element_2 ?_
  refine cv_X12_333 (pc := 3) rfl dX12_element_3 hm.2.2.1 (Nat.le_of_ble_eq_true rfl) ?_
  refine m_refusal (by omega) hz hm hS (fun y hy => ?_)
  refine a_if_eq (pc := 6) (tgt := 15) dX12_element_6 (by decide) (fun c_6 => ?_) (fun c_6 => ?_)
  · obtain ⟨q, n, s, hq, rfl, rfl, hn, hn6, hs, hsh⟩ := refS_0 hS (hy.symm.trans c_6)
    refine a_aloadn_0 (pc := 15) dX12_element_15 ?_
    refine mg_77 hm rfl dX12_element_16 ?_
    refine a_bipush (pc := 19) (v := nI 60) dX12_element_19 (by decide) ?_
    refine a_iloadn_1 (pc := 21) dX12_element_21 ?_
    refine n_imul dX12_element_22 ?_
    refine a_iloadn_2 (pc := 23) dX12_element_23 ?_
    refine n_iadd dX12_element_24 ?_
    refine ml_items (x := gItems b (60 * q + n)) hm dX12_element_25 (by omega) rfl ?_
    exact a_lret (pc := 26) dX12_element_26 rfl (zf hz) (k1 q n s hq rfl rfl hn hs hsh)
  · refine a_ldc2 (pc := 9) dX12_element_9 w_1277 ?_
    refine a_goto (pc := 12) (tgt := 26) dX12_element_12 (by decide) ?_
    exact a_lret (pc := 26) dX12_element_26 rfl (zf hz) (k0 (fun z => c_6 (hy.trans z)))
