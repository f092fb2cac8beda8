/-! the reference: the hill, moths -/
theorem BV_D {b : MB} {p : MP} {t : MT} {o : MO} {v : Cv} {f : Nat → Nat} {r c : Nat} (h : BV (b, p, t, o) v) (hr : r < 36) (hf : ∀ j, j ≠ 36 + r → f j = mMay (b, p, t, o) j) (hc : f (36 + r) = c) (p1 : MP) (t1 : MT) : BV (sMay (b, p1, t1, o) f) (cTell v r 1 c) := by
  obtain ⟨h1, h2, h3, h4⟩ := h
  refine ⟨fun j hj => ?_, (hf 144 (by omega)).trans h2, (hf 145 (by omega)).trans h3, (hf 146 (by omega)).trans h4⟩
  obtain ⟨g1, g2, g3, g4⟩ := h1 j hj
  refine ⟨(hf j (by omega)).trans g1, (hf (108 + j) (by omega)).trans g2, ?_, (hf (72 + j) (by omega)).trans g4⟩
  show f (36 + j) = va_up (cG v) r c j
  unfold va_up
  by_cases e : j = r
  · rw [if_pos e, e, hc]
  · rw [if_neg e]; exact (hf (36 + j) (by omega)).trans g3
theorem BV_H {b : MB} {p : MP} {t : MT} {o : MO} {v : Cv} {f : Nat → Nat} {c : Nat} (h : BV (b, p, t, o) v) (hf : ∀ j, j ≠ 144 → f j = mMay (b, p, t, o) j) (hc : f 144 = c) (p1 : MP) (t1 : MT) : BV (sMay (b, p1, t1, o) f) (cTell v 0 4 c) := by
  obtain ⟨h1, h2, h3, h4⟩ := h
  refine ⟨fun j hj => ?_, hc, (hf 145 (by omega)).trans h3, (hf 146 (by omega)).trans h4⟩
  obtain ⟨g1, g2, g3, g4⟩ := h1 j hj
  exact ⟨(hf j (by omega)).trans g1, (hf (108 + j) (by omega)).trans g2, (hf (36 + j) (by omega)).trans g3, (hf (72 + j) (by omega)).trans g4⟩
theorem up_back {f g : Nat → Nat} {w : Nat} (h : ∀ j, j ≠ w → f j = g j) : va_up f w (g w) = g := by
  funext j
  unfold va_up
  by_cases e : j = w
  · rw [if_pos e, e]
  · rw [if_neg e]; exact h j e
theorem HV_Wc {b : MB} {p : MP} {t : MT} {o : MO} {u : Cv} {f : Nat → Nat} {r x : Nat} (h : HV (b, p, t, o) u) (hf : ∀ j, j < 36 → f j = if j = r then x else cW u j) : HV (sWax (b, p, t, o) f) (csW u r x) := by
  obtain ⟨h1, h2⟩ := h
  refine ⟨fun j hj => ?_, h2⟩
  obtain ⟨g1, g2⟩ := h1 j hj
  refine ⟨?_, g2⟩
  show f j = va_up (cW u) r x j
  unfold va_up
  exact hf j hj
/-- a shelf's row as the reference has it -/
def shM (b : MB) (q sz : Nat) (el : Nat → Int64) : Prop := q < 6 ∧ sz ≤ 60 ∧ b.2.2.2.2.2.1 q = sz ∧ ∀ i, i < 60 → b.2.2.2.2.2.2 (60 * q + i) = el i
set_option maxRecDepth 100000 in
set_option maxHeartbeats 4000000 in
theorem m_firstFalse {G : Cx} {d : Nat} {h h0 : List va_E} {b : MB} {p : MP} {t : MT} {o : MO} {Q : Option Value → List va_E → Prop} (hd : 70 ≤ d) (hz : gz G = false) (hm : MS G h0 h (b, p, t, o)) {v : Cv} {F : Lf} (hb : BV (b, p, t, o) v) (okv : okC v) (hL : LM b F) {q sz : Nat} {el : Nat → Int64} (hsh : shM b q sz el) (k : ∀ y h1 p1 t1, y = unl F v el sz → MS G h0 h1 (b, p1, t1, o) → Q (some (.int y)) h1) : AM G yX12_firstFalse cX12_firstFalse 3 (some .int) d 0 0 [.ref (gB G + 80), .int (nI (q))] h Q := by
  obtain ⟨d, rfl, he⟩ := dpos hd
  obtain ⟨P, hP⟩ : ∃ P : Nat → Bool, P = fun k => decide (¬ bL (cK (hrs F k v)) = el k) := ⟨_, rfl⟩
  obtain ⟨S, hSS⟩ : ∃ S, S = fsrch P (min sz 49) 0 := ⟨_, rfl⟩
  have k : ∀ y h1 p1 t1, y = S → MS G h0 h1 (b, p1, t1, o) → Q (some (.int y)) h1 := fun y h1 p1 t1 e => k y h1 p1 t1 (by rw [e, hSS, hP]; rfl)
  have hPe : ∀ i, P i = decide (¬ bL (cK (hrs F i v)) = el i) := fun i => by rw [hP]
  have sz9 := hsh.2.1
  have q9 := hsh.1
  have lp : ∀ (n : Nat) (i : Nat) (h1 : List va_E) (p1 : MP) (t1 : MT), min sz 49 - i < n → (i ≤ min sz 49) → (fsrch P (min sz 49 - i) i = S) → (MS G h0 h1 (b, p1, t1, o)) → (HV (b, p1, t1, o) (hrs F i v)) → AW G yX12_firstFalse cX12_firstFalse 3 (some .int) (rmx (d + 1) 0 0) (ZQ G 0 0 (h.length + 0) Q) 0 0 6 [some (.ref (gB G + 80)), some (.int (nI (q))), some (.int (nI (i)))] [] h1 := by
    intro n
    induction n with
    | zero => intro i h1 p1 t1 hn; exact absurd hn (Nat.not_lt_zero _)
    | succ n ih =>
      intro i h1 p1 t1 hn hi hS hm1 hv1
      refine a_iloadn_2 (pc := 6) dX12_firstFalse_6 ?_
      refine a_bipush (pc := 7) (v := nI 48) dX12_firstFalse_7 (by decide) ?_
      refine n_icmp_gt (tgt := 53) dX12_firstFalse_9 (by decide) (by omega) (by decide) (fun c_9 => ?_) (fun c_9 => ?_)
      · refine a_bipush (pc := 53) (v := (-2)) dX12_firstFalse_53 (by decide) ?_
        exact a_iret (pc := 55) dX12_firstFalse_55 rfl (zf hz) (k _ _ _ _ (by rw [← hS]; exact (fs_end (by omega)).symm) hm1)
      · refine a_iloadn_2 (pc := 12) dX12_firstFalse_12 ?_
        refine a_aloadn_0 (pc := 13) dX12_firstFalse_13 ?_
        refine mg_74 hm1 rfl dX12_firstFalse_14 ?_
        refine a_iloadn_1 (pc := 17) dX12_firstFalse_17 ?_
        refine ml_many (x := sz) hm1 dX12_firstFalse_18 (by omega) hsh.2.2.1 ?_
        refine n_icmp_ge (tgt := 53) dX12_firstFalse_19 (by decide) (by omega) (by omega) (fun c_19 => ?_) (fun c_19 => ?_)
        · refine a_bipush (pc := 53) (v := (-2)) dX12_firstFalse_53 (by decide) ?_
          exact a_iret (pc := 55) dX12_firstFalse_55 rfl (zf hz) (k _ _ _ _ (by rw [← hS]; exact (fs_end (by omega)).symm) hm1)
        · refine a_aloadn_0 (pc := 22) dX12_firstFalse_22 ?_
          refine mg_77 hm1 rfl dX12_firstFalse_23 ?_
          refine a_bipush (pc := 26) (v := nI 60) dX12_firstFalse_26 (by decide) ?_
          refine a_iloadn_1 (pc := 28) dX12_firstFalse_28 ?_
          refine n_imul dX12_firstFalse_29 ?_
          refine a_iloadn_2 (pc := 30) dX12_firstFalse_30 ?_
          refine n_iadd dX12_firstFalse_31 ?_
          refine ml_items (x := el i) hm1 dX12_firstFalse_32 (by omega) (hsh.2.2.2 i (by omega)) ?_
          refine a_aloadn_0 (pc := 33) dX12_firstFalse_33 ?_
          refine cv_X12_242 (pc := 34) rfl dX12_firstFalse_34 hm1.2.2.1 (Nat.le_of_ble_eq_true rfl) ?_
          refine m_darkSet (by omega) hz hm1 hv1 ?_
          refine a_lcmp (pc := 37) dX12_firstFalse_37 ?_
          refine a_if_eq (pc := 38) (tgt := 43) dX12_firstFalse_38 (by decide) (fun c_38 => ?_) (fun c_38 => ?_)
          · rw [lg_cmp0] at c_38
            refine a_aloadn_0 (pc := 43) dX12_firstFalse_43 ?_
            refine cv_X12_217 (pc := 44) rfl dX12_firstFalse_44 hm1.2.2.1 (Nat.le_of_ble_eq_true rfl) ?_
            refine m_goesHour (by omega) hz hm1 hv1 ((okC_hrs okv i)) hL (fun h4 p4 t4 hm4 hv4 hl4 => ?_)
            refine a_iinc_2 (pc := 47) (v := nI (i + 1)) dX12_firstFalse_47 (nI_add _ _) (by decide) (by first | rfl | trivial) ?_
            refine a_goto (pc := 50) (tgt := 6) dX12_firstFalse_50 (by decide) ?_
            exact ih (i + 1) _ _ _ (by omega) (by omega) (by rw [← hS]; exact (fs_miss (by omega) ((hPe i).trans (decide_eq_false (fun z => z c_38.symm)))).symm) hm4 hv4
          · rw [lg_cmp0] at c_38
            refine a_iloadn_2 (pc := 41) dX12_firstFalse_41 ?_
            exact a_iret (pc := 42) dX12_firstFalse_42 rfl (zf hz) (k _ _ _ _ (by rw [← hS]; exact (fs_hit (by omega) ((hPe i).trans (decide_eq_true (fun z => c_38 z.symm)))).symm) hm1)
  refine AM.of [some (.ref (gB G + 80)), some (.int (nI (q))), none] pnX12 (Nat.le_of_ble_eq_true rfl) (by simp [lsub, lvI, Value.category]) ?_
  refine a_aloadn_0 (pc := 0) dX12_firstFalse_0 ?_
  refine cv_X12_220 (pc := 1) rfl dX12_firstFalse_1 hm.2.2.1 (Nat.le_of_ble_eq_true rfl) ?_
  refine m_begins (by omega) hz hm hb (fun h1 t1 hm1 hv1 => ?_)
  refine a_iconst (pc := 4) (v := nI 0) dX12_firstFalse_4 (by decide) ?_
  refine a_istoren_2 (pc := 5) dX12_firstFalse_5 (by decide) (by first | rfl | trivial) ?_
  exact lp (min sz 49 + 1) 0 _ _ _ (by omega) (by omega) hSS.symm hm1 hv1
set_option maxRecDepth 100000 in
set_option maxHeartbeats 4000000 in
theorem m_triesD {G : Cx} {d : Nat} {h h0 : List va_E} {b : MB} {p : MP} {t : MT} {o : MO} {Q : Option Value → List va_E → Prop} (hd : 72 ≤ d) (hz : gz G = false) (hm : MS G h0 h (b, p, t, o)) {v : Cv} {F : Lf} (hb : BV (b, p, t, o) v) (okv : okC v) (hL : LM b F) {q sz : Nat} {el : Nat → Int64} (hsh : shM b q sz el) {r : Nat} (hr : r < 36) {w : Nat} (hw9 : w < 1000) (k : ∀ y h1 p1 t1, y = (if w = 0 then nI (fitN F v el sz r 1 0) else fitL F v el sz r 1 0) → MS G h0 h1 (b, p1, t1, o) → Q (some (.int y)) h1) : AM G yX12_triesAll cX12_triesAll 9 (some .int) d 0 0 [.ref (gB G + 80), .int (nI (q)), .int (nI (36 + r)), .int (nI (0)), .int (nI (w))] h Q := by
  obtain ⟨d, rfl, he⟩ := dpos hd
  have q9 := hsh.1
  have lp : ∀ (m i n : Nat) (fi : Int32) (h1 : List va_E) (p1 : MP) (t1 : MT) (f1 : Nat → Nat), 10 - i < m → i ≤ 10 → 0 ≤ i → n ≤ i → n + cntf (fitP F v el sz r 1) (10 - i) i = fitN F v el sz r 1 0 → (if n = 0 then fsrch (fitP F v el sz r 1) (10 - i) i else fi) = fitL F v el sz r 1 0 → (n = 0 → fi = -2) → (∀ j, j ≠ 36 + r → f1 j = mMay (b, p, t, o) j) → MS G h0 h1 (sMay (b, p1, t1, o) f1) → AW G yX12_triesAll cX12_triesAll 9 (some .int) (rmx (d + 1) 0 0) (ZQ G 0 0 (h.length + 0) Q) 0 0 18 [some (.ref (gB G + 80)), some (.int (nI (q))), some (.int (nI (36 + r))), some (.int (nI (0))), some (.int (nI (w))), some (.int (nI (mMay (b, p, t, o) (36 + r)))), some (.int (nI (n))), some (.int (fi)), some (.int (nI (i)))] [] h1 := by
    intro m
    induction m with
    | zero => intro i n fi h1 p1 t1 f1 hn; exact absurd hn (Nat.not_lt_zero _)
    | succ m ih =>
      intro i n fi h1 p1 t1 f1 hn hi hlo hni hN hFi h00 hf hm1
      refine a_iload_8 (pc := 18) dX12_triesAll_18 ?_
      refine a_bipush (pc := 20) (v := nI 9) dX12_triesAll_20 (by decide) ?_
      refine n_icmp_gt (tgt := 66) dX12_triesAll_22 (by decide) (by omega) (by decide) (fun c_22 => ?_) (fun c_22 => ?_)
      · refine a_aloadn_0 (pc := 66) dX12_triesAll_66 ?_
        refine mg_9 hm1 rfl dX12_triesAll_67 ?_
        refine a_iloadn_2 (pc := 70) dX12_triesAll_70 ?_
        
        refine a_iload_5 (pc := 71) dX12_triesAll_71 ?_
        refine ms_may (j := (36 + r)) (x := mMay (b, p, t, o) (36 + r)) hm1 dX12_triesAll_73 (by omega) (fun h4 hm4 => ?_)
        rw [show va_up f1 (36 + r) (mMay (b, p, t, o) (36 + r)) = mMay (b, p, t, o) from up_back hf] at hm4
        refine a_iload_4 (pc := 74) dX12_triesAll_74 ?_
        refine n_if_ne (tgt := 84) dX12_triesAll_76 (by decide) (by omega) (fun c_76 => ?_) (fun c_76 => ?_)
        · refine a_iload_7 (pc := 84) dX12_triesAll_84 ?_
          exact a_iret (pc := 86) dX12_triesAll_86 rfl (zf hz) (k _ _ _ _ (by rw [if_neg (by omega), ← hFi, fs_end (by omega)]; split; (· rename_i z; exact h00 z); rfl) hm4)
        · refine a_iload_6 (pc := 79) dX12_triesAll_79 ?_
          refine a_goto (pc := 81) (tgt := 86) dX12_triesAll_81 (by decide) ?_
          exact a_iret (pc := 86) dX12_triesAll_86 rfl (zf hz) (k _ _ _ _ (by rw [if_pos c_76, ← hN, cnt_end (by omega), Nat.add_zero]) hm4)
      · refine a_aloadn_0 (pc := 25) dX12_triesAll_25 ?_
        refine mg_9 hm1 rfl dX12_triesAll_26 ?_
        refine a_iloadn_2 (pc := 29) dX12_triesAll_29 ?_
        refine a_iload_8 (pc := 30) dX12_triesAll_30 ?_
        refine ms_may (j := (36 + r)) (x := i) hm1 dX12_triesAll_32 (by omega) (fun h4 hm4 => ?_)
        refine a_aloadn_0 (pc := 33) dX12_triesAll_33 ?_
        refine a_iloadn_1 (pc := 34) dX12_triesAll_34 ?_
        refine cv_X12_284 (pc := 35) rfl dX12_triesAll_35 hm4.2.2.1 (Nat.le_of_ble_eq_true rfl) ?_
        have hb9 : BV (sMay (b, p1, t1, o) (va_up f1 (36 + r) i)) (cTell v r 1 i) := BV_D hb hr (fun j hj => (up_ne hj).trans (hf j hj)) up_eq p1 t1
        have ok9 : okC (cTell v r 1 i) := okC_tell okv (by decide) (fun _ => by omega) ⟨by show (0 : Int32) ≤ nI i; exact nI_pos' (by omega), by show nI i ≤ nI 9; exact nI_le (by omega) (by decide), by omega⟩
        refine m_firstFalse (by omega) hz hm4 hb9 ok9 hL hsh (fun y h7 p7 t7 hy hm7 => ?_)
        have hm7 : MS G h0 h7 (sMay (b, p7, t7, o) (va_up f1 (36 + r) i)) := hm7
        have hf7 : ∀ j, j ≠ 36 + r → va_up f1 (36 + r) i j = mMay (b, p, t, o) j := fun j hj => (up_ne hj).trans (hf j hj)
        refine a_bipush (pc := 38) (v := (-2)) dX12_triesAll_38 (by decide) ?_
        refine a_icmp_ne (pc := 40) (tgt := 60) dX12_triesAll_40 (by decide) (fun c_40 => ?_) (fun c_40 => ?_)
        · have hp : (fitP F v el sz r 1) i = false := by unfold fitP; rw [← hy]; exact decide_eq_false c_40
          refine a_iinc_8 (pc := 60) (v := nI (i + 1)) dX12_triesAll_60 (nI_add _ _) (by decide) (by first | rfl | trivial) ?_
          refine a_goto (pc := 63) (tgt := 18) dX12_triesAll_63 (by decide) ?_
          exact ih (i + 1) n _ _ _ _ _ (by omega) (by omega) (by omega) (by omega) (by rw [← hN, cnt_st (show i < 10 by omega), hp]; simp) (by rw [← hFi, fs_miss (show i < 10 by omega) hp]) h00 hf7 hm7
        · have hp : (fitP F v el sz r 1) i = true := by unfold fitP; rw [← hy]; exact decide_eq_true c_40
          refine a_iload_6 (pc := 43) dX12_triesAll_43 ?_
          refine n_if_ne (tgt := 53) dX12_triesAll_45 (by decide) (by omega) (fun c_45 => ?_) (fun c_45 => ?_)
          · refine a_iload_7 (pc := 53) dX12_triesAll_53 ?_
            refine a_istore_7 (pc := 55) dX12_triesAll_55 (by decide) (by first | rfl | trivial) ?_
            refine a_iinc_6 (pc := 57) (v := nI (n + 1)) dX12_triesAll_57 (nI_add _ _) (by decide) (by first | rfl | trivial) ?_
            refine a_iinc_8 (pc := 60) (v := nI (i + 1)) dX12_triesAll_60 (nI_add _ _) (by decide) (by first | rfl | trivial) ?_
            refine a_goto (pc := 63) (tgt := 18) dX12_triesAll_63 (by decide) ?_
            exact ih (i + 1) (n + 1) _ _ _ _ _ (by omega) (by omega) (by omega) (by omega) (by rw [← hN, cnt_st (show i < 10 by omega), hp]; simp; omega) (by rw [← hFi, if_neg (by omega), if_neg (by omega)]) (fun z => by omega) hf7 hm7
          · refine a_iload_8 (pc := 48) dX12_triesAll_48 ?_
            refine a_goto (pc := 50) (tgt := 55) dX12_triesAll_50 (by decide) ?_
            refine a_istore_7 (pc := 55) dX12_triesAll_55 (by decide) (by first | rfl | trivial) ?_
            refine a_iinc_6 (pc := 57) (v := nI (n + 1)) dX12_triesAll_57 (nI_add _ _) (by decide) (by first | rfl | trivial) ?_
            refine a_iinc_8 (pc := 60) (v := nI (i + 1)) dX12_triesAll_60 (nI_add _ _) (by decide) (by first | rfl | trivial) ?_
            refine a_goto (pc := 63) (tgt := 18) dX12_triesAll_63 (by decide) ?_
            exact ih (i + 1) (n + 1) (nI i) _ _ _ _ (by omega) (by omega) (by omega) (by omega) (by rw [← hN, cnt_st (show i < 10 by omega), hp]; simp; omega) (by rw [← hFi, if_neg (by omega), if_pos c_45, fs_hit (show i < 10 by omega) hp]) (fun z => by omega) hf7 hm7
  refine AM.of [some (.ref (gB G + 80)), some (.int (nI (q))), some (.int (nI (36 + r))), some (.int (nI (0))), some (.int (nI (w))), none, none, none, none] pnX12 (Nat.le_of_ble_eq_true rfl) (by simp [lsub, lvI, Value.category]) ?_
  refine a_aloadn_0 (pc := 0) dX12_triesAll_0 ?_
  refine mg_9 hm rfl dX12_triesAll_1 ?_
  refine a_iloadn_2 (pc := 4) dX12_triesAll_4 ?_
  refine ml_may (x := mMay ((b, p, t, o)) (36 + r)) hm dX12_triesAll_5 (by omega) rfl ?_
  refine a_istore_5 (pc := 6) dX12_triesAll_6 (by decide) (by first | rfl | trivial) ?_
  refine a_iconst (pc := 8) (v := nI 0) dX12_triesAll_8 (by decide) ?_
  refine a_istore_6 (pc := 9) dX12_triesAll_9 (by decide) (by first | rfl | trivial) ?_
  refine a_bipush (pc := 11) (v := (-2)) dX12_triesAll_11 (by decide) ?_
  refine a_istore_7 (pc := 13) dX12_triesAll_13 (by decide) (by first | rfl | trivial) ?_
  refine a_iloadn_3 (pc := 15) dX12_triesAll_15 ?_
  refine a_istore_8 (pc := 16) dX12_triesAll_16 (by decide) (by first | rfl | trivial) ?_
  exact lp 11 0 0 (-2) _ _ _ (mMay (b, p, t, o)) (by omega) (by omega) (by omega) (by omega) (Nat.zero_add _) (if_pos rfl) (fun _ => rfl) (fun _ _ => rfl) hm
set_option maxRecDepth 100000 in
set_option maxHeartbeats 4000000 in
theorem m_triesH {G : Cx} {d : Nat} {h h0 : List va_E} {b : MB} {p : MP} {t : MT} {o : MO} {Q : Option Value → List va_E → Prop} (hd : 72 ≤ d) (hz : gz G = false) (hm : MS G h0 h (b, p, t, o)) {v : Cv} {F : Lf} (hb : BV (b, p, t, o) v) (okv : okC v) (hL : LM b F) {q sz : Nat} {el : Nat → Int64} (hsh : shM b q sz el) {w : Nat} (hw9 : w < 1000) (k : ∀ y h1 p1 t1, y = (if w = 0 then nI (fitN F v el sz 0 4 1) else fitL F v el sz 0 4 1) → MS G h0 h1 (b, p1, t1, o) → Q (some (.int y)) h1) : AM G yX12_triesAll cX12_triesAll 9 (some .int) d 0 0 [.ref (gB G + 80), .int (nI (q)), .int (nI (144)), .int (nI (1)), .int (nI (w))] h Q := by
  obtain ⟨d, rfl, he⟩ := dpos hd
  have q9 := hsh.1
  have lp : ∀ (m i n : Nat) (fi : Int32) (h1 : List va_E) (p1 : MP) (t1 : MT) (f1 : Nat → Nat), 10 - i < m → i ≤ 10 → 1 ≤ i → n ≤ i → n + cntf (fitP F v el sz 0 4) (10 - i) i = fitN F v el sz 0 4 1 → (if n = 0 then fsrch (fitP F v el sz 0 4) (10 - i) i else fi) = fitL F v el sz 0 4 1 → (n = 0 → fi = -2) → (∀ j, j ≠ 144 → f1 j = mMay (b, p, t, o) j) → MS G h0 h1 (sMay (b, p1, t1, o) f1) → AW G yX12_triesAll cX12_triesAll 9 (some .int) (rmx (d + 1) 0 0) (ZQ G 0 0 (h.length + 0) Q) 0 0 18 [some (.ref (gB G + 80)), some (.int (nI (q))), some (.int (nI (144))), some (.int (nI (1))), some (.int (nI (w))), some (.int (nI (mMay (b, p, t, o) 144))), some (.int (nI (n))), some (.int (fi)), some (.int (nI (i)))] [] h1 := by
    intro m
    induction m with
    | zero => intro i n fi h1 p1 t1 f1 hn; exact absurd hn (Nat.not_lt_zero _)
    | succ m ih =>
      intro i n fi h1 p1 t1 f1 hn hi hlo hni hN hFi h00 hf hm1
      refine a_iload_8 (pc := 18) dX12_triesAll_18 ?_
      refine a_bipush (pc := 20) (v := nI 9) dX12_triesAll_20 (by decide) ?_
      refine n_icmp_gt (tgt := 66) dX12_triesAll_22 (by decide) (by omega) (by decide) (fun c_22 => ?_) (fun c_22 => ?_)
      · refine a_aloadn_0 (pc := 66) dX12_triesAll_66 ?_
        refine mg_9 hm1 rfl dX12_triesAll_67 ?_
        refine a_iloadn_2 (pc := 70) dX12_triesAll_70 ?_
        
        refine a_iload_5 (pc := 71) dX12_triesAll_71 ?_
        refine ms_may (j := 144) (x := mMay (b, p, t, o) 144) hm1 dX12_triesAll_73 (by omega) (fun h4 hm4 => ?_)
        rw [show va_up f1 144 (mMay (b, p, t, o) 144) = mMay (b, p, t, o) from up_back hf] at hm4
        refine a_iload_4 (pc := 74) dX12_triesAll_74 ?_
        refine n_if_ne (tgt := 84) dX12_triesAll_76 (by decide) (by omega) (fun c_76 => ?_) (fun c_76 => ?_)
        · refine a_iload_7 (pc := 84) dX12_triesAll_84 ?_
          exact a_iret (pc := 86) dX12_triesAll_86 rfl (zf hz) (k _ _ _ _ (by rw [if_neg (by omega), ← hFi, fs_end (by omega)]; split; (· rename_i z; exact h00 z); rfl) hm4)
        · refine a_iload_6 (pc := 79) dX12_triesAll_79 ?_
          refine a_goto (pc := 81) (tgt := 86) dX12_triesAll_81 (by decide) ?_
          exact a_iret (pc := 86) dX12_triesAll_86 rfl (zf hz) (k _ _ _ _ (by rw [if_pos c_76, ← hN, cnt_end (by omega), Nat.add_zero]) hm4)
      · refine a_aloadn_0 (pc := 25) dX12_triesAll_25 ?_
        refine mg_9 hm1 rfl dX12_triesAll_26 ?_
        refine a_iloadn_2 (pc := 29) dX12_triesAll_29 ?_
        refine a_iload_8 (pc := 30) dX12_triesAll_30 ?_
        refine ms_may (j := 144) (x := i) hm1 dX12_triesAll_32 (by omega) (fun h4 hm4 => ?_)
        refine a_aloadn_0 (pc := 33) dX12_triesAll_33 ?_
        refine a_iloadn_1 (pc := 34) dX12_triesAll_34 ?_
        refine cv_X12_284 (pc := 35) rfl dX12_triesAll_35 hm4.2.2.1 (Nat.le_of_ble_eq_true rfl) ?_
        have hb9 : BV (sMay (b, p1, t1, o) (va_up f1 144 i)) (cTell v 0 4 i) := BV_H hb (fun j hj => (up_ne hj).trans (hf j hj)) up_eq p1 t1
        have ok9 : okC (cTell v 0 4 i) := okC_tell okv (by decide) (fun _ => by omega) ⟨by show nI 1 ≤ nI i; exact nI_le (by omega) (by omega), by show nI i ≤ nI 9; exact nI_le (by omega) (by decide), by omega⟩
        refine m_firstFalse (by omega) hz hm4 hb9 ok9 hL hsh (fun y h7 p7 t7 hy hm7 => ?_)
        have hm7 : MS G h0 h7 (sMay (b, p7, t7, o) (va_up f1 144 i)) := hm7
        have hf7 : ∀ j, j ≠ 144 → va_up f1 144 i j = mMay (b, p, t, o) j := fun j hj => (up_ne hj).trans (hf j hj)
        refine a_bipush (pc := 38) (v := (-2)) dX12_triesAll_38 (by decide) ?_
        refine a_icmp_ne (pc := 40) (tgt := 60) dX12_triesAll_40 (by decide) (fun c_40 => ?_) (fun c_40 => ?_)
        · have hp : (fitP F v el sz 0 4) i = false := by unfold fitP; rw [← hy]; exact decide_eq_false c_40
          refine a_iinc_8 (pc := 60) (v := nI (i + 1)) dX12_triesAll_60 (nI_add _ _) (by decide) (by first | rfl | trivial) ?_
          refine a_goto (pc := 63) (tgt := 18) dX12_triesAll_63 (by decide) ?_
          exact ih (i + 1) n _ _ _ _ _ (by omega) (by omega) (by omega) (by omega) (by rw [← hN, cnt_st (show i < 10 by omega), hp]; simp) (by rw [← hFi, fs_miss (show i < 10 by omega) hp]) h00 hf7 hm7
        · have hp : (fitP F v el sz 0 4) i = true := by unfold fitP; rw [← hy]; exact decide_eq_true c_40
          refine a_iload_6 (pc := 43) dX12_triesAll_43 ?_
          refine n_if_ne (tgt := 53) dX12_triesAll_45 (by decide) (by omega) (fun c_45 => ?_) (fun c_45 => ?_)
          · refine a_iload_7 (pc := 53) dX12_triesAll_53 ?_
            refine a_istore_7 (pc := 55) dX12_triesAll_55 (by decide) (by first | rfl | trivial) ?_
            refine a_iinc_6 (pc := 57) (v := nI (n + 1)) dX12_triesAll_57 (nI_add _ _) (by decide) (by first | rfl | trivial) ?_
            refine a_iinc_8 (pc := 60) (v := nI (i + 1)) dX12_triesAll_60 (nI_add _ _) (by decide) (by first | rfl | trivial) ?_
            refine a_goto (pc := 63) (tgt := 18) dX12_triesAll_63 (by decide) ?_
            exact ih (i + 1) (n + 1) _ _ _ _ _ (by omega) (by omega) (by omega) (by omega) (by rw [← hN, cnt_st (show i < 10 by omega), hp]; simp; omega) (by rw [← hFi, if_neg (by omega), if_neg (by omega)]) (fun z => by omega) hf7 hm7
          · refine a_iload_8 (pc := 48) dX12_triesAll_48 ?_
            refine a_goto (pc := 50) (tgt := 55) dX12_triesAll_50 (by decide) ?_
            refine a_istore_7 (pc := 55) dX12_triesAll_55 (by decide) (by first | rfl | trivial) ?_
            refine a_iinc_6 (pc := 57) (v := nI (n + 1)) dX12_triesAll_57 (nI_add _ _) (by decide) (by first | rfl | trivial) ?_
            refine a_iinc_8 (pc := 60) (v := nI (i + 1)) dX12_triesAll_60 (nI_add _ _) (by decide) (by first | rfl | trivial) ?_
            refine a_goto (pc := 63) (tgt := 18) dX12_triesAll_63 (by decide) ?_
            exact ih (i + 1) (n + 1) (nI i) _ _ _ _ (by omega) (by omega) (by omega) (by omega) (by rw [← hN, cnt_st (show i < 10 by omega), hp]; simp; omega) (by rw [← hFi, if_neg (by omega), if_pos c_45, fs_hit (show i < 10 by omega) hp]) (fun z => by omega) hf7 hm7
  refine AM.of [some (.ref (gB G + 80)), some (.int (nI (q))), some (.int (nI (144))), some (.int (nI (1))), some (.int (nI (w))), none, none, none, none] pnX12 (Nat.le_of_ble_eq_true rfl) (by simp [lsub, lvI, Value.category]) ?_
  refine a_aloadn_0 (pc := 0) dX12_triesAll_0 ?_
  refine mg_9 hm rfl dX12_triesAll_1 ?_
  refine a_iloadn_2 (pc := 4) dX12_triesAll_4 ?_
  refine ml_may (x := mMay ((b, p, t, o)) 144) hm dX12_triesAll_5 (by omega) rfl ?_
  refine a_istore_5 (pc := 6) dX12_triesAll_6 (by decide) (by first | rfl | trivial) ?_
  refine a_iconst (pc := 8) (v := nI 0) dX12_triesAll_8 (by decide) ?_
  refine a_istore_6 (pc := 9) dX12_triesAll_9 (by decide) (by first | rfl | trivial) ?_
  refine a_bipush (pc := 11) (v := (-2)) dX12_triesAll_11 (by decide) ?_
  refine a_istore_7 (pc := 13) dX12_triesAll_13 (by decide) (by first | rfl | trivial) ?_
  refine a_iloadn_3 (pc := 15) dX12_triesAll_15 ?_
  refine a_istore_8 (pc := 16) dX12_triesAll_16 (by decide) (by first | rfl | trivial) ?_
  exact lp 11 1 0 (-2) _ _ _ (mMay (b, p, t, o)) (by omega) (by omega) (by omega) (by omega) (Nat.zero_add _) (if_pos rfl) (fun _ => rfl) (fun _ _ => rfl) hm
