set_option maxRecDepth 100000 in
set_option maxHeartbeats 4000000 in
theorem mg0_s {G : Cx} {h0 : List va_E} {b : MB} {t : MT} {o : MO} {bs : Int32} {n : Nat} {nms c : Nat → Nat} {k : Nat} (hz : gz G = false) (hb : BYT b bs n c) (I1 : ∀ j, j ≤ k → Mg1 G h0 b t o bs n nms c j) : Mg0 G h0 b t o bs n nms c (k + 1) := by
  intro d h p op acc Q r hd hop hp H hm kk
  obtain ⟨d, rfl, he⟩ := dpos (k := 6 * (6 - op) + 8) (by omega)
  refine AM.of [some (.ref (gB G + 80)), none, none] pnX12 (Nat.le_of_ble_eq_true rfl) (by simp [lsub, lvI, Value.category]) ?_
  obtain ⟨hn, hc0, h255, -⟩ := id hb
  have fx : ∀ (h1 : List va_E) (f at1 op1 : Nat) (v : Int32), f ≤ n → at1 < 1000 → op ≤ op1 → r = .inl f → MS G h0 h1 (b, (bs, at1, n, (nI f), op1, nms), t, o) → AW G yX12_either cX12_either 3 (some .int) (rmx (d + 1) 0 0) (ZQ G 0 0 (h.length + 0) Q) 0 0 5 [some (.ref (gB G + 80)), some (.int (v)), none] [] h1 := by
    intro h1 f at1 op1 v hf1 ha1 ho1 hr hm1
    subst hr
    refine a_aloadn_0 (pc := 5) dX12_either_5 ?_
    refine a_bipush (pc := 6) (v := nI 124) dX12_either_6 (by decide) ?_
    refine cv_X12_157 (pc := 8) rfl dX12_either_8 hm1.2.2.1 (Nat.le_of_ble_eq_true rfl) ?_
    refine m_takesG (by omega) hz hb (by omega) hm1 (g := f) (by omega) ?_
    refine b_if_eq (pc := 11) (tgt := 36) dX12_either_11 (by decide) (fun c_11 => ?_) (fun c_11 => by cases c_11)
    refine a_iloadn_1 (pc := 36) dX12_either_36 ?_
    exact a_iret (pc := 37) dX12_either_37 rfl (zf hz) (kk _ _ ⟨at1, op1, ho1, ha1, hm1⟩)
  have lp : ∀ (j : Nat) (h1 : List va_E) (q : Nat) (e : Ex) (v : Int32), j ≤ k → q ≤ n → ps c j 10 op q e = some r → MS G h0 h1 (b, (bs, q, n, (-1), op, nms), t, o) → v = e (fun j => nI (nms j)) → AW G yX12_either cX12_either 3 (some .int) (rmx (d + 1) 0 0) (ZQ G 0 0 (h.length + 0) Q) 0 0 5 [some (.ref (gB G + 80)), some (.int (v)), none] [] h1 := by
    intro j
    induction j with
    | zero => intro h1 q e v _ _ H; exact (ps_0 H).elim
    | succ j ih =>
      intro h1 q e v hj hq H hm1 hv
      rcases ps_lp (L := 0) H with ⟨hl, rfl⟩ | ⟨hl, ⟨f, hr1, rfl⟩ | ⟨q2, e2, hr1, -, H⟩⟩
      · refine a_aloadn_0 (pc := 5) dX12_either_5 ?_
        refine a_bipush (pc := 6) (v := nI 124) dX12_either_6 (by decide) ?_
        refine cv_X12_157 (pc := 8) rfl dX12_either_8 hm1.2.2.1 (Nat.le_of_ble_eq_true rfl) ?_
        refine m_takes (by omega) hz hb (by omega) hm1 (by decide) (fun hx => absurd hx (lvO_ne0 hl)) (fun hx => ?_)
        refine b_if_eq (pc := 11) (tgt := 36) dX12_either_11 (by decide) (fun c_11 => ?_) (fun c_11 => by cases c_11)
        refine a_iloadn_1 (pc := 36) dX12_either_36 ?_
        exact a_iret (pc := 37) dX12_either_37 rfl (zf hz) (kk _ _ ⟨hm1, hv⟩)
      · have hcq : c q = 124 := by rcases lvO_of hl (by decide) with g | g | g | g | g <;> omega
        have hqn := ch_lt hc0 (show 0 < c q by omega)
        refine a_aloadn_0 (pc := 5) dX12_either_5 ?_
        refine a_bipush (pc := 6) (v := nI 124) dX12_either_6 (by decide) ?_
        refine cv_X12_157 (pc := 8) rfl dX12_either_8 hm1.2.2.1 (Nat.le_of_ble_eq_true rfl) ?_
        refine m_takes (by omega) hz hb (by omega) hm1 (by decide) (fun hx h2 hm2 => ?_) (fun hx => absurd hcq hx)
        refine b_if_eq (pc := 11) (tgt := 36) dX12_either_11 (by decide) (fun c_11 => by cases c_11) (fun c_11 => ?_)
        refine a_aloadn_0 (pc := 14) dX12_either_14 ?_
        refine cv_X12_154 (pc := 15) rfl dX12_either_15 hm2.2.2.1 (Nat.le_of_ble_eq_true rfl) ?_
        refine I1 j (by omega) d h2 (q + 1) op e _ _ (by omega) (by omega) (by omega) hr1 hm2 (fun h3 w H9 => ?_)
        obtain ⟨at1, op1, ho1, ha1, hm_h3⟩ := H9
        have hf1 := (ps_pb c n hc0 _ _ _ _ _ _ hr1 (by omega) (by omega)).1
        refine a_istoren_2 (pc := 18) dX12_either_18 (by decide) (by first | rfl | trivial) ?_
        refine a_iloadn_1 (pc := 19) dX12_either_19 ?_
        refine a_if_ne (pc := 20) (tgt := 27) dX12_either_20 (by decide) (fun c_20 => ?_) (fun c_20 => ?_)
        · refine a_iconst (pc := 27) (v := nI 1) dX12_either_27 (by decide) ?_
          refine a_goto (pc := 28) (tgt := 32) dX12_either_28 (by decide) ?_
          refine a_istoren_1 (pc := 32) dX12_either_32 (by decide) (by first | rfl | trivial) ?_
          refine a_goto (pc := 33) (tgt := 5) dX12_either_33 (by decide) ?_
          refine a_ls (ls' := [some _, some _, none, none]) ⟨rfl, rfl, trivial⟩ ?_
          exact fx _ f at1 op1 _ hf1 ha1 ho1 rfl hm_h3
        · refine a_iloadn_2 (pc := 23) dX12_either_23 ?_
          refine a_if_eq (pc := 24) (tgt := 31) dX12_either_24 (by decide) (fun c_24 => ?_) (fun c_24 => ?_)
          · refine a_iconst (pc := 31) (v := nI 0) dX12_either_31 (by decide) ?_
            refine a_istoren_1 (pc := 32) dX12_either_32 (by decide) (by first | rfl | trivial) ?_
            refine a_goto (pc := 33) (tgt := 5) dX12_either_33 (by decide) ?_
            refine a_ls (ls' := [some _, some _, none, none]) ⟨rfl, rfl, trivial⟩ ?_
            exact fx _ f at1 op1 _ hf1 ha1 ho1 rfl hm_h3
          · refine a_iconst (pc := 27) (v := nI 1) dX12_either_27 (by decide) ?_
            refine a_goto (pc := 28) (tgt := 32) dX12_either_28 (by decide) ?_
            refine a_istoren_1 (pc := 32) dX12_either_32 (by decide) (by first | rfl | trivial) ?_
            refine a_goto (pc := 33) (tgt := 5) dX12_either_33 (by decide) ?_
            refine a_ls (ls' := [some _, some _, none, none]) ⟨rfl, rfl, trivial⟩ ?_
            exact fx _ f at1 op1 _ hf1 ha1 ho1 rfl hm_h3
      · have hcq : c q = 124 := by rcases lvO_of hl (by decide) with g | g | g | g | g <;> omega
        have hqn := ch_lt hc0 (show 0 < c q by omega)
        have H := H (by decide)
        refine a_aloadn_0 (pc := 5) dX12_either_5 ?_
        refine a_bipush (pc := 6) (v := nI 124) dX12_either_6 (by decide) ?_
        refine cv_X12_157 (pc := 8) rfl dX12_either_8 hm1.2.2.1 (Nat.le_of_ble_eq_true rfl) ?_
        refine m_takes (by omega) hz hb (by omega) hm1 (by decide) (fun hx h2 hm2 => ?_) (fun hx => absurd hcq hx)
        refine b_if_eq (pc := 11) (tgt := 36) dX12_either_11 (by decide) (fun c_11 => by cases c_11) (fun c_11 => ?_)
        refine a_aloadn_0 (pc := 14) dX12_either_14 ?_
        refine cv_X12_154 (pc := 15) rfl dX12_either_15 hm2.2.2.1 (Nat.le_of_ble_eq_true rfl) ?_
        refine I1 j (by omega) d h2 (q + 1) op e _ _ (by omega) (by omega) (by omega) hr1 hm2 (fun h3 w H9 => ?_)
        obtain ⟨hm_h3, hv_h3⟩ := H9
        have hb_h3 := ps_pb c n hc0 _ _ _ _ _ _ hr1 (by omega) (by omega)
        have hq_h3 := hb_h3.1
        have hl_h3 := hb_h3.2.1
        refine a_istoren_2 (pc := 18) dX12_either_18 (by decide) (by first | rfl | trivial) ?_
        refine a_iloadn_1 (pc := 19) dX12_either_19 ?_
        refine a_if_ne (pc := 20) (tgt := 27) dX12_either_20 (by decide) (fun c_20 => ?_) (fun c_20 => ?_)
        · refine a_iconst (pc := 27) (v := nI 1) dX12_either_27 (by decide) ?_
          refine a_goto (pc := 28) (tgt := 32) dX12_either_28 (by decide) ?_
          refine a_istoren_1 (pc := 32) dX12_either_32 (by decide) (by first | rfl | trivial) ?_
          refine a_goto (pc := 33) (tgt := 5) dX12_either_33 (by decide) ?_
          refine a_ls (ls' := [some _, some _, none, none]) ⟨rfl, rfl, trivial⟩ ?_
          exact ih _ q2 _ _ (by omega) hq_h3 H hm_h3 (by show _ = joinV (c q) (e _) (e2 _); rw [hcq, ← hv, ← hv_h3]; show _ = (if v = 0 then (if w = 0 then 0 else 1) else 1); first | (rw [if_neg c_20]; rfl) | (rw [if_pos c_20, if_neg c_24]; rfl) | (rw [if_pos c_20, if_pos c_24]; rfl))
        · refine a_iloadn_2 (pc := 23) dX12_either_23 ?_
          refine a_if_eq (pc := 24) (tgt := 31) dX12_either_24 (by decide) (fun c_24 => ?_) (fun c_24 => ?_)
          · refine a_iconst (pc := 31) (v := nI 0) dX12_either_31 (by decide) ?_
            refine a_istoren_1 (pc := 32) dX12_either_32 (by decide) (by first | rfl | trivial) ?_
            refine a_goto (pc := 33) (tgt := 5) dX12_either_33 (by decide) ?_
            refine a_ls (ls' := [some _, some _, none, none]) ⟨rfl, rfl, trivial⟩ ?_
            exact ih _ q2 _ _ (by omega) hq_h3 H hm_h3 (by show _ = joinV (c q) (e _) (e2 _); rw [hcq, ← hv, ← hv_h3]; show _ = (if v = 0 then (if w = 0 then 0 else 1) else 1); first | (rw [if_neg c_20]; rfl) | (rw [if_pos c_20, if_neg c_24]; rfl) | (rw [if_pos c_20, if_pos c_24]; rfl))
          · refine a_iconst (pc := 27) (v := nI 1) dX12_either_27 (by decide) ?_
            refine a_goto (pc := 28) (tgt := 32) dX12_either_28 (by decide) ?_
            refine a_istoren_1 (pc := 32) dX12_either_32 (by decide) (by first | rfl | trivial) ?_
            refine a_goto (pc := 33) (tgt := 5) dX12_either_33 (by decide) ?_
            refine a_ls (ls' := [some _, some _, none, none]) ⟨rfl, rfl, trivial⟩ ?_
            exact ih _ q2 _ _ (by omega) hq_h3 H hm_h3 (by show _ = joinV (c q) (e _) (e2 _); rw [hcq, ← hv, ← hv_h3]; show _ = (if v = 0 then (if w = 0 then 0 else 1) else 1); first | (rw [if_neg c_20]; rfl) | (rw [if_pos c_20, if_neg c_24]; rfl) | (rw [if_pos c_20, if_pos c_24]; rfl))
  rcases ps_lv (by decide) H with ⟨f, hr1, rfl⟩ | ⟨q, e, hr1, H⟩
  · refine a_aloadn_0 (pc := 0) dX12_either_0 ?_
    refine cv_X12_154 (pc := 1) rfl dX12_either_1 hm.2.2.1 (Nat.le_of_ble_eq_true rfl) ?_
    refine I1 k (Nat.le_refl k) d h p op acc _ _ (by omega) (by omega) (by omega) hr1 hm (fun h1 v H9 => ?_)
    obtain ⟨at1, op1, ho1, ha1, hm_h1⟩ := H9
    have hf1 := (ps_pb c n hc0 _ _ _ _ _ _ hr1 (by omega) (by omega)).1
    refine a_istoren_1 (pc := 4) dX12_either_4 (by decide) (by first | rfl | trivial) ?_
    exact fx _ f at1 op1 _ hf1 ha1 ho1 rfl hm_h1
  · refine a_aloadn_0 (pc := 0) dX12_either_0 ?_
    refine cv_X12_154 (pc := 1) rfl dX12_either_1 hm.2.2.1 (Nat.le_of_ble_eq_true rfl) ?_
    refine I1 k (Nat.le_refl k) d h p op acc _ _ (by omega) (by omega) (by omega) hr1 hm (fun h1 v H9 => ?_)
    obtain ⟨hm_h1, hv_h1⟩ := H9
    have hb_h1 := ps_pb c n hc0 _ _ _ _ _ _ hr1 (by omega) (by omega)
    have hq_h1 := hb_h1.1
    have hl_h1 := hb_h1.2.1
    refine a_istoren_1 (pc := 4) dX12_either_4 (by decide) (by first | rfl | trivial) ?_
    exact lp k _ q e _ (Nat.le_refl k) hq_h1 H hm_h1 hv_h1
set_option maxRecDepth 100000 in
set_option maxHeartbeats 4000000 in
theorem mg1_s {G : Cx} {h0 : List va_E} {b : MB} {t : MT} {o : MO} {bs : Int32} {n : Nat} {nms c : Nat → Nat} {k : Nat} (hz : gz G = false) (hb : BYT b bs n c) (I2 : ∀ j, j ≤ k → Mg2 G h0 b t o bs n nms c j) : Mg1 G h0 b t o bs n nms c (k + 1) := by
  intro d h p op acc Q r hd hop hp H hm kk
  obtain ⟨d, rfl, he⟩ := dpos (k := 6 * (6 - op) + 7) (by omega)
  refine AM.of [some (.ref (gB G + 80)), none, none] pnX12 (Nat.le_of_ble_eq_true rfl) (by simp [lsub, lvI, Value.category]) ?_
  obtain ⟨hn, hc0, h255, -⟩ := id hb
  have fx : ∀ (h1 : List va_E) (f at1 op1 : Nat) (v : Int32), f ≤ n → at1 < 1000 → op ≤ op1 → r = .inl f → MS G h0 h1 (b, (bs, at1, n, (nI f), op1, nms), t, o) → AW G yX12_both cX12_both 3 (some .int) (rmx (d + 1) 0 0) (ZQ G 0 0 (h.length + 0) Q) 0 0 5 [some (.ref (gB G + 80)), some (.int (v)), none] [] h1 := by
    intro h1 f at1 op1 v hf1 ha1 ho1 hr hm1
    subst hr
    refine a_aloadn_0 (pc := 5) dX12_both_5 ?_
    refine a_bipush (pc := 6) (v := nI 38) dX12_both_6 (by decide) ?_
    refine cv_X12_157 (pc := 8) rfl dX12_both_8 hm1.2.2.1 (Nat.le_of_ble_eq_true rfl) ?_
    refine m_takesG (by omega) hz hb (by omega) hm1 (g := f) (by omega) ?_
    refine b_if_eq (pc := 11) (tgt := 36) dX12_both_11 (by decide) (fun c_11 => ?_) (fun c_11 => by cases c_11)
    refine a_iloadn_1 (pc := 36) dX12_both_36 ?_
    exact a_iret (pc := 37) dX12_both_37 rfl (zf hz) (kk _ _ ⟨at1, op1, ho1, ha1, hm1⟩)
  have lp : ∀ (j : Nat) (h1 : List va_E) (q : Nat) (e : Ex) (v : Int32), j ≤ k → q ≤ n → ps c j 11 op q e = some r → MS G h0 h1 (b, (bs, q, n, (-1), op, nms), t, o) → v = e (fun j => nI (nms j)) → AW G yX12_both cX12_both 3 (some .int) (rmx (d + 1) 0 0) (ZQ G 0 0 (h.length + 0) Q) 0 0 5 [some (.ref (gB G + 80)), some (.int (v)), none] [] h1 := by
    intro j
    induction j with
    | zero => intro h1 q e v _ _ H; exact (ps_0 H).elim
    | succ j ih =>
      intro h1 q e v hj hq H hm1 hv
      rcases ps_lp (L := 1) H with ⟨hl, rfl⟩ | ⟨hl, ⟨f, hr1, rfl⟩ | ⟨q2, e2, hr1, -, H⟩⟩
      · refine a_aloadn_0 (pc := 5) dX12_both_5 ?_
        refine a_bipush (pc := 6) (v := nI 38) dX12_both_6 (by decide) ?_
        refine cv_X12_157 (pc := 8) rfl dX12_both_8 hm1.2.2.1 (Nat.le_of_ble_eq_true rfl) ?_
        refine m_takes (by omega) hz hb (by omega) hm1 (by decide) (fun hx => absurd hx (lvO_ne1 hl)) (fun hx => ?_)
        refine b_if_eq (pc := 11) (tgt := 36) dX12_both_11 (by decide) (fun c_11 => ?_) (fun c_11 => by cases c_11)
        refine a_iloadn_1 (pc := 36) dX12_both_36 ?_
        exact a_iret (pc := 37) dX12_both_37 rfl (zf hz) (kk _ _ ⟨hm1, hv⟩)
      · have hcq : c q = 38 := by rcases lvO_of hl (by decide) with g | g | g | g | g <;> omega
        have hqn := ch_lt hc0 (show 0 < c q by omega)
        refine a_aloadn_0 (pc := 5) dX12_both_5 ?_
        refine a_bipush (pc := 6) (v := nI 38) dX12_both_6 (by decide) ?_
        refine cv_X12_157 (pc := 8) rfl dX12_both_8 hm1.2.2.1 (Nat.le_of_ble_eq_true rfl) ?_
        refine m_takes (by omega) hz hb (by omega) hm1 (by decide) (fun hx h2 hm2 => ?_) (fun hx => absurd hcq hx)
        refine b_if_eq (pc := 11) (tgt := 36) dX12_both_11 (by decide) (fun c_11 => by cases c_11) (fun c_11 => ?_)
        refine a_aloadn_0 (pc := 14) dX12_both_14 ?_
        refine cv_X12_160 (pc := 15) rfl dX12_both_15 hm2.2.2.1 (Nat.le_of_ble_eq_true rfl) ?_
        refine I2 j (by omega) d h2 (q + 1) op e _ _ (by omega) (by omega) (by omega) hr1 hm2 (fun h3 w H9 => ?_)
        obtain ⟨at1, op1, ho1, ha1, hm_h3⟩ := H9
        have hf1 := (ps_pb c n hc0 _ _ _ _ _ _ hr1 (by omega) (by omega)).1
        refine a_istoren_2 (pc := 18) dX12_both_18 (by decide) (by first | rfl | trivial) ?_
        refine a_iloadn_1 (pc := 19) dX12_both_19 ?_
        refine a_if_eq (pc := 20) (tgt := 31) dX12_both_20 (by decide) (fun c_20 => ?_) (fun c_20 => ?_)
        · refine a_iconst (pc := 31) (v := nI 0) dX12_both_31 (by decide) ?_
          refine a_istoren_1 (pc := 32) dX12_both_32 (by decide) (by first | rfl | trivial) ?_
          refine a_goto (pc := 33) (tgt := 5) dX12_both_33 (by decide) ?_
          refine a_ls (ls' := [some _, some _, none, none]) ⟨rfl, rfl, trivial⟩ ?_
          exact fx _ f at1 op1 _ hf1 ha1 ho1 rfl hm_h3
        · refine a_iloadn_2 (pc := 23) dX12_both_23 ?_
          refine a_if_eq (pc := 24) (tgt := 31) dX12_both_24 (by decide) (fun c_24 => ?_) (fun c_24 => ?_)
          · refine a_iconst (pc := 31) (v := nI 0) dX12_both_31 (by decide) ?_
            refine a_istoren_1 (pc := 32) dX12_both_32 (by decide) (by first | rfl | trivial) ?_
            refine a_goto (pc := 33) (tgt := 5) dX12_both_33 (by decide) ?_
            refine a_ls (ls' := [some _, some _, none, none]) ⟨rfl, rfl, trivial⟩ ?_
            exact fx _ f at1 op1 _ hf1 ha1 ho1 rfl hm_h3
          · refine a_iconst (pc := 27) (v := nI 1) dX12_both_27 (by decide) ?_
            refine a_goto (pc := 28) (tgt := 32) dX12_both_28 (by decide) ?_
            refine a_istoren_1 (pc := 32) dX12_both_32 (by decide) (by first | rfl | trivial) ?_
            refine a_goto (pc := 33) (tgt := 5) dX12_both_33 (by decide) ?_
            refine a_ls (ls' := [some _, some _, none, none]) ⟨rfl, rfl, trivial⟩ ?_
            exact fx _ f at1 op1 _ hf1 ha1 ho1 rfl hm_h3
      · have hcq : c q = 38 := by rcases lvO_of hl (by decide) with g | g | g | g | g <;> omega
        have hqn := ch_lt hc0 (show 0 < c q by omega)
        have H := H (by decide)
        refine a_aloadn_0 (pc := 5) dX12_both_5 ?_
        refine a_bipush (pc := 6) (v := nI 38) dX12_both_6 (by decide) ?_
        refine cv_X12_157 (pc := 8) rfl dX12_both_8 hm1.2.2.1 (Nat.le_of_ble_eq_true rfl) ?_
        refine m_takes (by omega) hz hb (by omega) hm1 (by decide) (fun hx h2 hm2 => ?_) (fun hx => absurd hcq hx)
        refine b_if_eq (pc := 11) (tgt := 36) dX12_both_11 (by decide) (fun c_11 => by cases c_11) (fun c_11 => ?_)
        refine a_aloadn_0 (pc := 14) dX12_both_14 ?_
        refine cv_X12_160 (pc := 15) rfl dX12_both_15 hm2.2.2.1 (Nat.le_of_ble_eq_true rfl) ?_
        refine I2 j (by omega) d h2 (q + 1) op e _ _ (by omega) (by omega) (by omega) hr1 hm2 (fun h3 w H9 => ?_)
        obtain ⟨hm_h3, hv_h3⟩ := H9
        have hb_h3 := ps_pb c n hc0 _ _ _ _ _ _ hr1 (by omega) (by omega)
        have hq_h3 := hb_h3.1
        have hl_h3 := hb_h3.2.1
        refine a_istoren_2 (pc := 18) dX12_both_18 (by decide) (by first | rfl | trivial) ?_
        refine a_iloadn_1 (pc := 19) dX12_both_19 ?_
        refine a_if_eq (pc := 20) (tgt := 31) dX12_both_20 (by decide) (fun c_20 => ?_) (fun c_20 => ?_)
        · refine a_iconst (pc := 31) (v := nI 0) dX12_both_31 (by decide) ?_
          refine a_istoren_1 (pc := 32) dX12_both_32 (by decide) (by first | rfl | trivial) ?_
          refine a_goto (pc := 33) (tgt := 5) dX12_both_33 (by decide) ?_
          refine a_ls (ls' := [some _, some _, none, none]) ⟨rfl, rfl, trivial⟩ ?_
          exact ih _ q2 _ _ (by omega) hq_h3 H hm_h3 (by show _ = joinV (c q) (e _) (e2 _); rw [hcq, ← hv, ← hv_h3]; show _ = (if v = 0 then 0 else (if w = 0 then 0 else 1)); first | (rw [if_pos c_20]; rfl) | (rw [if_neg c_20, if_neg c_24]; rfl) | (rw [if_neg c_20, if_pos c_24]; rfl))
        · refine a_iloadn_2 (pc := 23) dX12_both_23 ?_
          refine a_if_eq (pc := 24) (tgt := 31) dX12_both_24 (by decide) (fun c_24 => ?_) (fun c_24 => ?_)
          · refine a_iconst (pc := 31) (v := nI 0) dX12_both_31 (by decide) ?_
            refine a_istoren_1 (pc := 32) dX12_both_32 (by decide) (by first | rfl | trivial) ?_
            refine a_goto (pc := 33) (tgt := 5) dX12_both_33 (by decide) ?_
            refine a_ls (ls' := [some _, some _, none, none]) ⟨rfl, rfl, trivial⟩ ?_
            exact ih _ q2 _ _ (by omega) hq_h3 H hm_h3 (by show _ = joinV (c q) (e _) (e2 _); rw [hcq, ← hv, ← hv_h3]; show _ = (if v = 0 then 0 else (if w = 0 then 0 else 1)); first | (rw [if_pos c_20]; rfl) | (rw [if_neg c_20, if_neg c_24]; rfl) | (rw [if_neg c_20, if_pos c_24]; rfl))
          · refine a_iconst (pc := 27) (v := nI 1) dX12_both_27 (by decide) ?_
            refine a_goto (pc := 28) (tgt := 32) dX12_both_28 (by decide) ?_
            refine a_istoren_1 (pc := 32) dX12_both_32 (by decide) (by first | rfl | trivial) ?_
            refine a_goto (pc := 33) (tgt := 5) dX12_both_33 (by decide) ?_
            refine a_ls (ls' := [some _, some _, none, none]) ⟨rfl, rfl, trivial⟩ ?_
            exact ih _ q2 _ _ (by omega) hq_h3 H hm_h3 (by show _ = joinV (c q) (e _) (e2 _); rw [hcq, ← hv, ← hv_h3]; show _ = (if v = 0 then 0 else (if w = 0 then 0 else 1)); first | (rw [if_pos c_20]; rfl) | (rw [if_neg c_20, if_neg c_24]; rfl) | (rw [if_neg c_20, if_pos c_24]; rfl))
  rcases ps_lv (by decide) H with ⟨f, hr1, rfl⟩ | ⟨q, e, hr1, H⟩
  · refine a_aloadn_0 (pc := 0) dX12_both_0 ?_
    refine cv_X12_160 (pc := 1) rfl dX12_both_1 hm.2.2.1 (Nat.le_of_ble_eq_true rfl) ?_
    refine I2 k (Nat.le_refl k) d h p op acc _ _ (by omega) (by omega) (by omega) hr1 hm (fun h1 v H9 => ?_)
    obtain ⟨at1, op1, ho1, ha1, hm_h1⟩ := H9
    have hf1 := (ps_pb c n hc0 _ _ _ _ _ _ hr1 (by omega) (by omega)).1
    refine a_istoren_1 (pc := 4) dX12_both_4 (by decide) (by first | rfl | trivial) ?_
    exact fx _ f at1 op1 _ hf1 ha1 ho1 rfl hm_h1
  · refine a_aloadn_0 (pc := 0) dX12_both_0 ?_
    refine cv_X12_160 (pc := 1) rfl dX12_both_1 hm.2.2.1 (Nat.le_of_ble_eq_true rfl) ?_
    refine I2 k (Nat.le_refl k) d h p op acc _ _ (by omega) (by omega) (by omega) hr1 hm (fun h1 v H9 => ?_)
    obtain ⟨hm_h1, hv_h1⟩ := H9
    have hb_h1 := ps_pb c n hc0 _ _ _ _ _ _ hr1 (by omega) (by omega)
    have hq_h1 := hb_h1.1
    have hl_h1 := hb_h1.2.1
    refine a_istoren_1 (pc := 4) dX12_both_4 (by decide) (by first | rfl | trivial) ?_
    exact lp k _ q e _ (Nat.le_refl k) hq_h1 H hm_h1 hv_h1
set_option maxRecDepth 100000 in
set_option maxHeartbeats 4000000 in
theorem mg2_s {G : Cx} {h0 : List va_E} {b : MB} {t : MT} {o : MO} {bs : Int32} {n : Nat} {nms c : Nat → Nat} {k : Nat} (hz : gz G = false) (hb : BYT b bs n c) (I3 : ∀ j, j ≤ k → Mg3 G h0 b t o bs n nms c j) : Mg2 G h0 b t o bs n nms c (k + 1) := by
  intro d h p op acc Q r hd hop hp H hm kk
  obtain ⟨d, rfl, he⟩ := dpos (k := 6 * (6 - op) + 6) (by omega)
  refine AM.of [some (.ref (gB G + 80)), none, none, none] pnX12 (Nat.le_of_ble_eq_true rfl) (by simp [lsub, lvI, Value.category]) ?_
  obtain ⟨hn, hc0, h255, -⟩ := id hb
  rcases ps_lv (by decide) H with ⟨f, hr1, rfl⟩ | ⟨q, e, hr1, H⟩
  · refine a_aloadn_0 (pc := 0) dX12_compared_0 ?_
    refine cv_X12_163 (pc := 1) rfl dX12_compared_1 hm.2.2.1 (Nat.le_of_ble_eq_true rfl) ?_
    refine I3 k (Nat.le_refl k) d h p op acc _ _ (by omega) (by omega) (by omega) hr1 hm (fun h1 v H9 => ?_)
    obtain ⟨at1, op1, ho1, ha1, hm_h1⟩ := H9
    have hf1 := (ps_pb c n hc0 _ _ _ _ _ _ hr1 (by omega) (by omega)).1
    refine a_istoren_1 (pc := 4) dX12_compared_4 (by decide) (by first | rfl | trivial) ?_
    refine a_aloadn_0 (pc := 5) dX12_compared_5 ?_
    refine cv_X12_150 (pc := 6) rfl dX12_compared_6 hm_h1.2.2.1 (Nat.le_of_ble_eq_true rfl) ?_
    refine m_byteAt (by omega) hz hb (by omega) hm_h1 ?_
    refine a_istoren_2 (pc := 9) dX12_compared_9 (by decide) (by first | rfl | trivial) ?_
    refine a_aloadn_0 (pc := 10) dX12_compared_10 ?_
    refine mg_147 (x := nI (f)) hm_h1 rfl dX12_compared_11 rfl ?_
    refine n_if_ge (tgt := 35) dX12_compared_14 (by decide) (by omega) ?_
    refine a_iloadn_1 (pc := 35) dX12_compared_35 ?_
    exact a_iret (pc := 36) dX12_compared_36 rfl (zf hz) (kk _ _ ⟨at1, op1, ho1, ha1, hm_h1⟩)
  · cases k with
    | zero => exact (ps_0 H).elim
    | succ k =>
      rcases ps_lp (L := 2) H with ⟨hl, rfl⟩ | ⟨hl, ⟨f, hr2, rfl⟩ | ⟨q2, e2, hr2, hr, -⟩⟩
      · obtain ⟨g1, g2, g3⟩ := lvO_ne2 hl
        have hcq9 := h255 q
        refine a_aloadn_0 (pc := 0) dX12_compared_0 ?_
        refine cv_X12_163 (pc := 1) rfl dX12_compared_1 hm.2.2.1 (Nat.le_of_ble_eq_true rfl) ?_
        refine I3 (k + 1) (Nat.le_refl _) d h p op acc _ _ (by omega) (by omega) (by omega) hr1 hm (fun h1 v H9 => ?_)
        obtain ⟨hm_h1, hv_h1⟩ := H9
        have hb_h1 := ps_pb c n hc0 _ _ _ _ _ _ hr1 (by omega) (by omega)
        have hq_h1 := hb_h1.1
        have hl_h1 := hb_h1.2.1
        refine a_istoren_1 (pc := 4) dX12_compared_4 (by decide) (by first | rfl | trivial) ?_
        refine a_aloadn_0 (pc := 5) dX12_compared_5 ?_
        refine cv_X12_150 (pc := 6) rfl dX12_compared_6 hm_h1.2.2.1 (Nat.le_of_ble_eq_true rfl) ?_
        refine m_byteAt (by omega) hz hb (by omega) hm_h1 ?_
        refine a_istoren_2 (pc := 9) dX12_compared_9 (by decide) (by first | rfl | trivial) ?_
        refine a_aloadn_0 (pc := 10) dX12_compared_10 ?_
        refine mg_147 (x := (-1)) hm_h1 rfl dX12_compared_11 rfl ?_
        refine a_if_ge (pc := 14) (tgt := 35) dX12_compared_14 (by decide) (fun c_14 => absurd c_14 (by decide)) (fun c_14 => ?_)
        refine a_iloadn_2 (pc := 17) dX12_compared_17 ?_
        refine a_bipush (pc := 18) (v := nI 60) dX12_compared_18 (by decide) ?_
        refine n_icmp_eq (tgt := 37) dX12_compared_20 (by decide) (by omega) (by decide) (fun c_20 => by omega) (fun c_20 => ?_)
        refine a_iloadn_2 (pc := 23) dX12_compared_23 ?_
        refine a_bipush (pc := 24) (v := nI 61) dX12_compared_24 (by decide) ?_
        refine n_icmp_eq (tgt := 37) dX12_compared_26 (by decide) (by omega) (by decide) (fun c_26 => by omega) (fun c_26 => ?_)
        refine a_iloadn_2 (pc := 29) dX12_compared_29 ?_
        refine a_bipush (pc := 30) (v := nI 62) dX12_compared_30 (by decide) ?_
        refine n_icmp_eq (tgt := 37) dX12_compared_32 (by decide) (by omega) (by decide) (fun c_32 => by omega) (fun c_32 => ?_)
        refine a_iloadn_1 (pc := 35) dX12_compared_35 ?_
        exact a_iret (pc := 36) dX12_compared_36 rfl (zf hz) (kk _ _ ⟨hm_h1, hv_h1⟩)
      · have hqn := lvO_lt hc0 (show lvO (c q) < 5 by omega)
        rcases (show c q = 60 ∨ c q = 61 ∨ c q = 62 by rcases lvO_of hl (by decide) with g | g | g | g | g <;> omega) with hcq | hcq | hcq
        · refine a_aloadn_0 (pc := 0) dX12_compared_0 ?_
          refine cv_X12_163 (pc := 1) rfl dX12_compared_1 hm.2.2.1 (Nat.le_of_ble_eq_true rfl) ?_
          refine I3 (k + 1) (Nat.le_refl _) d h p op acc _ _ (by omega) (by omega) (by omega) hr1 hm (fun h1 v H9 => ?_)
          obtain ⟨hm_h1, hv_h1⟩ := H9
          have hb_h1 := ps_pb c n hc0 _ _ _ _ _ _ hr1 (by omega) (by omega)
          have hq_h1 := hb_h1.1
          have hl_h1 := hb_h1.2.1
          refine a_istoren_1 (pc := 4) dX12_compared_4 (by decide) (by first | rfl | trivial) ?_
          refine a_aloadn_0 (pc := 5) dX12_compared_5 ?_
          refine cv_X12_150 (pc := 6) rfl dX12_compared_6 hm_h1.2.2.1 (Nat.le_of_ble_eq_true rfl) ?_
          refine m_byteAt (by omega) hz hb (by omega) hm_h1 ?_
          refine a_istoren_2 (pc := 9) dX12_compared_9 (by decide) (by first | rfl | trivial) ?_
          refine a_aloadn_0 (pc := 10) dX12_compared_10 ?_
          refine mg_147 (x := (-1)) hm_h1 rfl dX12_compared_11 rfl ?_
          refine a_if_ge (pc := 14) (tgt := 35) dX12_compared_14 (by decide) (fun c_14 => absurd c_14 (by decide)) (fun c_14 => ?_)
          refine a_iloadn_2 (pc := 17) dX12_compared_17 ?_
          refine a_bipush (pc := 18) (v := nI 60) dX12_compared_18 (by decide) ?_
          refine n_icmp_eq (tgt := 37) dX12_compared_20 (by decide) (by omega) (by decide) (fun c_20 => ?_) (fun c_20 => by omega)
          refine a_aloadn_0 (pc := 37) dX12_compared_37 ?_
          refine a_dup (pc := 38) dX12_compared_38 rfl ?_
          refine mg_138 (x := q) hm_h1 rfl dX12_compared_39 rfl ?_
          refine a_iconst (pc := 42) (v := nI 1) dX12_compared_42 (by decide) ?_
          refine n_iadd dX12_compared_43 ?_
          refine mp_138 (x := q + 1) hm_h1 rfl dX12_compared_44 (fun h21 hm21 => ?_)
          refine a_aloadn_0 (pc := 47) dX12_compared_47 ?_
          refine cv_X12_163 (pc := 48) rfl dX12_compared_48 hm21.2.2.1 (Nat.le_of_ble_eq_true rfl) ?_
          refine I3 k (by omega) d _ (q + 1) op e _ _ (by omega) (by omega) (by omega) hr2 hm21 (fun h3 w H9 => ?_)
          obtain ⟨at1, op1, ho1, ha1, hm_h3⟩ := H9
          have hf1 := (ps_pb c n hc0 _ _ _ _ _ _ hr2 (by omega) (by omega)).1
          refine a_istoren_3 (pc := 51) dX12_compared_51 (by decide) (by first | rfl | trivial) ?_
          refine a_iloadn_2 (pc := 52) dX12_compared_52 ?_
          refine a_bipush (pc := 53) (v := nI 60) dX12_compared_53 (by decide) ?_
          refine n_icmp_ne (tgt := 66) dX12_compared_55 (by decide) (by omega) (by decide) (fun c_55 => by omega) (fun c_55 => ?_)
          refine a_iloadn_1 (pc := 58) dX12_compared_58 ?_
          refine a_iloadn_3 (pc := 59) dX12_compared_59 ?_
          refine a_icmp_ge (pc := 60) (tgt := 89) dX12_compared_60 (by decide) (fun c_60 => ?_) (fun c_60 => ?_)
          · refine a_iconst (pc := 89) (v := nI 0) dX12_compared_89 (by decide) ?_
            exact a_iret (pc := 90) dX12_compared_90 rfl (zf hz) (kk _ _ ⟨at1, op1, ho1, ha1, hm_h3⟩)
          · refine a_goto (pc := 63) (tgt := 85) dX12_compared_63 (by decide) ?_
            refine a_iconst (pc := 85) (v := nI 1) dX12_compared_85 (by decide) ?_
            refine a_goto (pc := 86) (tgt := 90) dX12_compared_86 (by decide) ?_
            exact a_iret (pc := 90) dX12_compared_90 rfl (zf hz) (kk _ _ ⟨at1, op1, ho1, ha1, hm_h3⟩)
        · refine a_aloadn_0 (pc := 0) dX12_compared_0 ?_
          refine cv_X12_163 (pc := 1) rfl dX12_compared_1 hm.2.2.1 (Nat.le_of_ble_eq_true rfl) ?_
          refine I3 (k + 1) (Nat.le_refl _) d h p op acc _ _ (by omega) (by omega) (by omega) hr1 hm (fun h1 v H9 => ?_)
          obtain ⟨hm_h1, hv_h1⟩ := H9
          have hb_h1 := ps_pb c n hc0 _ _ _ _ _ _ hr1 (by omega) (by omega)
          have hq_h1 := hb_h1.1
          have hl_h1 := hb_h1.2.1
          refine a_istoren_1 (pc := 4) dX12_compared_4 (by decide) (by first | rfl | trivial) ?_
          refine a_aloadn_0 (pc := 5) dX12_compared_5 ?_
          refine cv_X12_150 (pc := 6) rfl dX12_compared_6 hm_h1.2.2.1 (Nat.le_of_ble_eq_true rfl) ?_
          refine m_byteAt (by omega) hz hb (by omega) hm_h1 ?_
          refine a_istoren_2 (pc := 9) dX12_compared_9 (by decide) (by first | rfl | trivial) ?_
          refine a_aloadn_0 (pc := 10) dX12_compared_10 ?_
          refine mg_147 (x := (-1)) hm_h1 rfl dX12_compared_11 rfl ?_
          refine a_if_ge (pc := 14) (tgt := 35) dX12_compared_14 (by decide) (fun c_14 => absurd c_14 (by decide)) (fun c_14 => ?_)
          refine a_iloadn_2 (pc := 17) dX12_compared_17 ?_
          refine a_bipush (pc := 18) (v := nI 60) dX12_compared_18 (by decide) ?_
          refine n_icmp_eq (tgt := 37) dX12_compared_20 (by decide) (by omega) (by decide) (fun c_20 => by omega) (fun c_20 => ?_)
          refine a_iloadn_2 (pc := 23) dX12_compared_23 ?_
          refine a_bipush (pc := 24) (v := nI 61) dX12_compared_24 (by decide) ?_
          refine n_icmp_eq (tgt := 37) dX12_compared_26 (by decide) (by omega) (by decide) (fun c_26 => ?_) (fun c_26 => by omega)
          refine a_aloadn_0 (pc := 37) dX12_compared_37 ?_
          refine a_dup (pc := 38) dX12_compared_38 rfl ?_
          refine mg_138 (x := q) hm_h1 rfl dX12_compared_39 rfl ?_
          refine a_iconst (pc := 42) (v := nI 1) dX12_compared_42 (by decide) ?_
          refine n_iadd dX12_compared_43 ?_
          refine mp_138 (x := q + 1) hm_h1 rfl dX12_compared_44 (fun h21 hm21 => ?_)
          refine a_aloadn_0 (pc := 47) dX12_compared_47 ?_
          refine cv_X12_163 (pc := 48) rfl dX12_compared_48 hm21.2.2.1 (Nat.le_of_ble_eq_true rfl) ?_
          refine I3 k (by omega) d _ (q + 1) op e _ _ (by omega) (by omega) (by omega) hr2 hm21 (fun h3 w H9 => ?_)
          obtain ⟨at1, op1, ho1, ha1, hm_h3⟩ := H9
          have hf1 := (ps_pb c n hc0 _ _ _ _ _ _ hr2 (by omega) (by omega)).1
          refine a_istoren_3 (pc := 51) dX12_compared_51 (by decide) (by first | rfl | trivial) ?_
          refine a_iloadn_2 (pc := 52) dX12_compared_52 ?_
          refine a_bipush (pc := 53) (v := nI 60) dX12_compared_53 (by decide) ?_
          refine n_icmp_ne (tgt := 66) dX12_compared_55 (by decide) (by omega) (by decide) (fun c_55 => ?_) (fun c_55 => by omega)
          refine a_iloadn_2 (pc := 66) dX12_compared_66 ?_
          refine a_bipush (pc := 67) (v := nI 61) dX12_compared_67 (by decide) ?_
          refine n_icmp_ne (tgt := 80) dX12_compared_69 (by decide) (by omega) (by decide) (fun c_69 => by omega) (fun c_69 => ?_)
          refine a_iloadn_1 (pc := 72) dX12_compared_72 ?_
          refine a_iloadn_3 (pc := 73) dX12_compared_73 ?_
          refine a_icmp_ne (pc := 74) (tgt := 89) dX12_compared_74 (by decide) (fun c_74 => ?_) (fun c_74 => ?_)
          · refine a_iconst (pc := 89) (v := nI 0) dX12_compared_89 (by decide) ?_
            exact a_iret (pc := 90) dX12_compared_90 rfl (zf hz) (kk _ _ ⟨at1, op1, ho1, ha1, hm_h3⟩)
          · refine a_goto (pc := 77) (tgt := 85) dX12_compared_77 (by decide) ?_
            refine a_iconst (pc := 85) (v := nI 1) dX12_compared_85 (by decide) ?_
            refine a_goto (pc := 86) (tgt := 90) dX12_compared_86 (by decide) ?_
            exact a_iret (pc := 90) dX12_compared_90 rfl (zf hz) (kk _ _ ⟨at1, op1, ho1, ha1, hm_h3⟩)
        · refine a_aloadn_0 (pc := 0) dX12_compared_0 ?_
          refine cv_X12_163 (pc := 1) rfl dX12_compared_1 hm.2.2.1 (Nat.le_of_ble_eq_true rfl) ?_
          refine I3 (k + 1) (Nat.le_refl _) d h p op acc _ _ (by omega) (by omega) (by omega) hr1 hm (fun h1 v H9 => ?_)
          obtain ⟨hm_h1, hv_h1⟩ := H9
          have hb_h1 := ps_pb c n hc0 _ _ _ _ _ _ hr1 (by omega) (by omega)
          have hq_h1 := hb_h1.1
          have hl_h1 := hb_h1.2.1
          refine a_istoren_1 (pc := 4) dX12_compared_4 (by decide) (by first | rfl | trivial) ?_
          refine a_aloadn_0 (pc := 5) dX12_compared_5 ?_
          refine cv_X12_150 (pc := 6) rfl dX12_compared_6 hm_h1.2.2.1 (Nat.le_of_ble_eq_true rfl) ?_
          refine m_byteAt (by omega) hz hb (by omega) hm_h1 ?_
          refine a_istoren_2 (pc := 9) dX12_compared_9 (by decide) (by first | rfl | trivial) ?_
          refine a_aloadn_0 (pc := 10) dX12_compared_10 ?_
          refine mg_147 (x := (-1)) hm_h1 rfl dX12_compared_11 rfl ?_
          refine a_if_ge (pc := 14) (tgt := 35) dX12_compared_14 (by decide) (fun c_14 => absurd c_14 (by decide)) (fun c_14 => ?_)
          refine a_iloadn_2 (pc := 17) dX12_compared_17 ?_
          refine a_bipush (pc := 18) (v := nI 60) dX12_compared_18 (by decide) ?_
          refine n_icmp_eq (tgt := 37) dX12_compared_20 (by decide) (by omega) (by decide) (fun c_20 => by omega) (fun c_20 => ?_)
          refine a_iloadn_2 (pc := 23) dX12_compared_23 ?_
          refine a_bipush (pc := 24) (v := nI 61) dX12_compared_24 (by decide) ?_
          refine n_icmp_eq (tgt := 37) dX12_compared_26 (by decide) (by omega) (by decide) (fun c_26 => by omega) (fun c_26 => ?_)
          refine a_iloadn_2 (pc := 29) dX12_compared_29 ?_
          refine a_bipush (pc := 30) (v := nI 62) dX12_compared_30 (by decide) ?_
          refine n_icmp_eq (tgt := 37) dX12_compared_32 (by decide) (by omega) (by decide) (fun c_32 => ?_) (fun c_32 => by omega)
          refine a_aloadn_0 (pc := 37) dX12_compared_37 ?_
          refine a_dup (pc := 38) dX12_compared_38 rfl ?_
          refine mg_138 (x := q) hm_h1 rfl dX12_compared_39 rfl ?_
          refine a_iconst (pc := 42) (v := nI 1) dX12_compared_42 (by decide) ?_
          refine n_iadd dX12_compared_43 ?_
          refine mp_138 (x := q + 1) hm_h1 rfl dX12_compared_44 (fun h21 hm21 => ?_)
          refine a_aloadn_0 (pc := 47) dX12_compared_47 ?_
          refine cv_X12_163 (pc := 48) rfl dX12_compared_48 hm21.2.2.1 (Nat.le_of_ble_eq_true rfl) ?_
          refine I3 k (by omega) d _ (q + 1) op e _ _ (by omega) (by omega) (by omega) hr2 hm21 (fun h3 w H9 => ?_)
          obtain ⟨at1, op1, ho1, ha1, hm_h3⟩ := H9
          have hf1 := (ps_pb c n hc0 _ _ _ _ _ _ hr2 (by omega) (by omega)).1
          refine a_istoren_3 (pc := 51) dX12_compared_51 (by decide) (by first | rfl | trivial) ?_
          refine a_iloadn_2 (pc := 52) dX12_compared_52 ?_
          refine a_bipush (pc := 53) (v := nI 60) dX12_compared_53 (by decide) ?_
          refine n_icmp_ne (tgt := 66) dX12_compared_55 (by decide) (by omega) (by decide) (fun c_55 => ?_) (fun c_55 => by omega)
          refine a_iloadn_2 (pc := 66) dX12_compared_66 ?_
          refine a_bipush (pc := 67) (v := nI 61) dX12_compared_67 (by decide) ?_
          refine n_icmp_ne (tgt := 80) dX12_compared_69 (by decide) (by omega) (by decide) (fun c_69 => ?_) (fun c_69 => by omega)
          refine a_iloadn_1 (pc := 80) dX12_compared_80 ?_
          refine a_iloadn_3 (pc := 81) dX12_compared_81 ?_
          refine a_icmp_le (pc := 82) (tgt := 89) dX12_compared_82 (by decide) (fun c_82 => ?_) (fun c_82 => ?_)
          · refine a_iconst (pc := 89) (v := nI 0) dX12_compared_89 (by decide) ?_
            exact a_iret (pc := 90) dX12_compared_90 rfl (zf hz) (kk _ _ ⟨at1, op1, ho1, ha1, hm_h3⟩)
          · refine a_iconst (pc := 85) (v := nI 1) dX12_compared_85 (by decide) ?_
            refine a_goto (pc := 86) (tgt := 90) dX12_compared_86 (by decide) ?_
            exact a_iret (pc := 90) dX12_compared_90 rfl (zf hz) (kk _ _ ⟨at1, op1, ho1, ha1, hm_h3⟩)
      · have hqn := lvO_lt hc0 (show lvO (c q) < 5 by omega)
        have hr := hr rfl
        subst hr
        rcases (show c q = 60 ∨ c q = 61 ∨ c q = 62 by rcases lvO_of hl (by decide) with g | g | g | g | g <;> omega) with hcq | hcq | hcq
        · refine a_aloadn_0 (pc := 0) dX12_compared_0 ?_
          refine cv_X12_163 (pc := 1) rfl dX12_compared_1 hm.2.2.1 (Nat.le_of_ble_eq_true rfl) ?_
          refine I3 (k + 1) (Nat.le_refl _) d h p op acc _ _ (by omega) (by omega) (by omega) hr1 hm (fun h1 v H9 => ?_)
          obtain ⟨hm_h1, hv_h1⟩ := H9
          have hb_h1 := ps_pb c n hc0 _ _ _ _ _ _ hr1 (by omega) (by omega)
          have hq_h1 := hb_h1.1
          have hl_h1 := hb_h1.2.1
          refine a_istoren_1 (pc := 4) dX12_compared_4 (by decide) (by first | rfl | trivial) ?_
          refine a_aloadn_0 (pc := 5) dX12_compared_5 ?_
          refine cv_X12_150 (pc := 6) rfl dX12_compared_6 hm_h1.2.2.1 (Nat.le_of_ble_eq_true rfl) ?_
          refine m_byteAt (by omega) hz hb (by omega) hm_h1 ?_
          refine a_istoren_2 (pc := 9) dX12_compared_9 (by decide) (by first | rfl | trivial) ?_
          refine a_aloadn_0 (pc := 10) dX12_compared_10 ?_
          refine mg_147 (x := (-1)) hm_h1 rfl dX12_compared_11 rfl ?_
          refine a_if_ge (pc := 14) (tgt := 35) dX12_compared_14 (by decide) (fun c_14 => absurd c_14 (by decide)) (fun c_14 => ?_)
          refine a_iloadn_2 (pc := 17) dX12_compared_17 ?_
          refine a_bipush (pc := 18) (v := nI 60) dX12_compared_18 (by decide) ?_
          refine n_icmp_eq (tgt := 37) dX12_compared_20 (by decide) (by omega) (by decide) (fun c_20 => ?_) (fun c_20 => by omega)
          refine a_aloadn_0 (pc := 37) dX12_compared_37 ?_
          refine a_dup (pc := 38) dX12_compared_38 rfl ?_
          refine mg_138 (x := q) hm_h1 rfl dX12_compared_39 rfl ?_
          refine a_iconst (pc := 42) (v := nI 1) dX12_compared_42 (by decide) ?_
          refine n_iadd dX12_compared_43 ?_
          refine mp_138 (x := q + 1) hm_h1 rfl dX12_compared_44 (fun h21 hm21 => ?_)
          refine a_aloadn_0 (pc := 47) dX12_compared_47 ?_
          refine cv_X12_163 (pc := 48) rfl dX12_compared_48 hm21.2.2.1 (Nat.le_of_ble_eq_true rfl) ?_
          refine I3 k (by omega) d _ (q + 1) op e _ _ (by omega) (by omega) (by omega) hr2 hm21 (fun h3 w H9 => ?_)
          obtain ⟨hm_h3, hv_h3⟩ := H9
          have hb_h3 := ps_pb c n hc0 _ _ _ _ _ _ hr2 (by omega) (by omega)
          have hq_h3 := hb_h3.1
          have hl_h3 := hb_h3.2.1
          refine a_istoren_3 (pc := 51) dX12_compared_51 (by decide) (by first | rfl | trivial) ?_
          refine a_iloadn_2 (pc := 52) dX12_compared_52 ?_
          refine a_bipush (pc := 53) (v := nI 60) dX12_compared_53 (by decide) ?_
          refine n_icmp_ne (tgt := 66) dX12_compared_55 (by decide) (by omega) (by decide) (fun c_55 => by omega) (fun c_55 => ?_)
          refine a_iloadn_1 (pc := 58) dX12_compared_58 ?_
          refine a_iloadn_3 (pc := 59) dX12_compared_59 ?_
          refine a_icmp_ge (pc := 60) (tgt := 89) dX12_compared_60 (by decide) (fun c_60 => ?_) (fun c_60 => ?_)
          · refine a_iconst (pc := 89) (v := nI 0) dX12_compared_89 (by decide) ?_
            exact a_iret (pc := 90) dX12_compared_90 rfl (zf hz) (kk _ _ ⟨hm_h3, by show _ = joinV (c q) (e _) (e2 _); rw [hcq, ← hv_h1, ← hv_h3]; show _ = (if w ≤ v then 0 else 1); first | (rw [if_pos c_60]; rfl) | (rw [if_neg c_60]; rfl)⟩)
          · refine a_goto (pc := 63) (tgt := 85) dX12_compared_63 (by decide) ?_
            refine a_iconst (pc := 85) (v := nI 1) dX12_compared_85 (by decide) ?_
            refine a_goto (pc := 86) (tgt := 90) dX12_compared_86 (by decide) ?_
            exact a_iret (pc := 90) dX12_compared_90 rfl (zf hz) (kk _ _ ⟨hm_h3, by show _ = joinV (c q) (e _) (e2 _); rw [hcq, ← hv_h1, ← hv_h3]; show _ = (if w ≤ v then 0 else 1); first | (rw [if_pos c_60]; rfl) | (rw [if_neg c_60]; rfl)⟩)
        · refine a_aloadn_0 (pc := 0) dX12_compared_0 ?_
          refine cv_X12_163 (pc := 1) rfl dX12_compared_1 hm.2.2.1 (Nat.le_of_ble_eq_true rfl) ?_
          refine I3 (k + 1) (Nat.le_refl _) d h p op acc _ _ (by omega) (by omega) (by omega) hr1 hm (fun h1 v H9 => ?_)
          obtain ⟨hm_h1, hv_h1⟩ := H9
          have hb_h1 := ps_pb c n hc0 _ _ _ _ _ _ hr1 (by omega) (by omega)
          have hq_h1 := hb_h1.1
          have hl_h1 := hb_h1.2.1
          refine a_istoren_1 (pc := 4) dX12_compared_4 (by decide) (by first | rfl | trivial) ?_
          refine a_aloadn_0 (pc := 5) dX12_compared_5 ?_
          refine cv_X12_150 (pc := 6) rfl dX12_compared_6 hm_h1.2.2.1 (Nat.le_of_ble_eq_true rfl) ?_
          refine m_byteAt (by omega) hz hb (by omega) hm_h1 ?_
          refine a_istoren_2 (pc := 9) dX12_compared_9 (by decide) (by first | rfl | trivial) ?_
          refine a_aloadn_0 (pc := 10) dX12_compared_10 ?_
          refine mg_147 (x := (-1)) hm_h1 rfl dX12_compared_11 rfl ?_
          refine a_if_ge (pc := 14) (tgt := 35) dX12_compared_14 (by decide) (fun c_14 => absurd c_14 (by decide)) (fun c_14 => ?_)
          refine a_iloadn_2 (pc := 17) dX12_compared_17 ?_
          refine a_bipush (pc := 18) (v := nI 60) dX12_compared_18 (by decide) ?_
          refine n_icmp_eq (tgt := 37) dX12_compared_20 (by decide) (by omega) (by decide) (fun c_20 => by omega) (fun c_20 => ?_)
          refine a_iloadn_2 (pc := 23) dX12_compared_23 ?_
          refine a_bipush (pc := 24) (v := nI 61) dX12_compared_24 (by decide) ?_
          refine n_icmp_eq (tgt := 37) dX12_compared_26 (by decide) (by omega) (by decide) (fun c_26 => ?_) (fun c_26 => by omega)
          refine a_aloadn_0 (pc := 37) dX12_compared_37 ?_
          refine a_dup (pc := 38) dX12_compared_38 rfl ?_
          refine mg_138 (x := q) hm_h1 rfl dX12_compared_39 rfl ?_
          refine a_iconst (pc := 42) (v := nI 1) dX12_compared_42 (by decide) ?_
          refine n_iadd dX12_compared_43 ?_
          refine mp_138 (x := q + 1) hm_h1 rfl dX12_compared_44 (fun h21 hm21 => ?_)
          refine a_aloadn_0 (pc := 47) dX12_compared_47 ?_
          refine cv_X12_163 (pc := 48) rfl dX12_compared_48 hm21.2.2.1 (Nat.le_of_ble_eq_true rfl) ?_
          refine I3 k (by omega) d _ (q + 1) op e _ _ (by omega) (by omega) (by omega) hr2 hm21 (fun h3 w H9 => ?_)
          obtain ⟨hm_h3, hv_h3⟩ := H9
          have hb_h3 := ps_pb c n hc0 _ _ _ _ _ _ hr2 (by omega) (by omega)
          have hq_h3 := hb_h3.1
          have hl_h3 := hb_h3.2.1
          refine a_istoren_3 (pc := 51) dX12_compared_51 (by decide) (by first | rfl | trivial) ?_
          refine a_iloadn_2 (pc := 52) dX12_compared_52 ?_
          refine a_bipush (pc := 53) (v := nI 60) dX12_compared_53 (by decide) ?_
          refine n_icmp_ne (tgt := 66) dX12_compared_55 (by decide) (by omega) (by decide) (fun c_55 => ?_) (fun c_55 => by omega)
          refine a_iloadn_2 (pc := 66) dX12_compared_66 ?_
          refine a_bipush (pc := 67) (v := nI 61) dX12_compared_67 (by decide) ?_
          refine n_icmp_ne (tgt := 80) dX12_compared_69 (by decide) (by omega) (by decide) (fun c_69 => by omega) (fun c_69 => ?_)
          refine a_iloadn_1 (pc := 72) dX12_compared_72 ?_
          refine a_iloadn_3 (pc := 73) dX12_compared_73 ?_
          refine a_icmp_ne (pc := 74) (tgt := 89) dX12_compared_74 (by decide) (fun c_74 => ?_) (fun c_74 => ?_)
          · refine a_iconst (pc := 89) (v := nI 0) dX12_compared_89 (by decide) ?_
            exact a_iret (pc := 90) dX12_compared_90 rfl (zf hz) (kk _ _ ⟨hm_h3, by show _ = joinV (c q) (e _) (e2 _); rw [hcq, ← hv_h1, ← hv_h3]; show _ = (if v = w then 1 else 0); first | (rw [if_neg c_74]; rfl) | (rw [if_pos c_74]; rfl)⟩)
          · refine a_goto (pc := 77) (tgt := 85) dX12_compared_77 (by decide) ?_
            refine a_iconst (pc := 85) (v := nI 1) dX12_compared_85 (by decide) ?_
            refine a_goto (pc := 86) (tgt := 90) dX12_compared_86 (by decide) ?_
            exact a_iret (pc := 90) dX12_compared_90 rfl (zf hz) (kk _ _ ⟨hm_h3, by show _ = joinV (c q) (e _) (e2 _); rw [hcq, ← hv_h1, ← hv_h3]; show _ = (if v = w then 1 else 0); first | (rw [if_neg c_74]; rfl) | (rw [if_pos c_74]; rfl)⟩)
        · refine a_aloadn_0 (pc := 0) dX12_compared_0 ?_
          refine cv_X12_163 (pc := 1) rfl dX12_compared_1 hm.2.2.1 (Nat.le_of_ble_eq_true rfl) ?_
          refine I3 (k + 1) (Nat.le_refl _) d h p op acc _ _ (by omega) (by omega) (by omega) hr1 hm (fun h1 v H9 => ?_)
          obtain ⟨hm_h1, hv_h1⟩ := H9
          have hb_h1 := ps_pb c n hc0 _ _ _ _ _ _ hr1 (by omega) (by omega)
          have hq_h1 := hb_h1.1
          have hl_h1 := hb_h1.2.1
          refine a_istoren_1 (pc := 4) dX12_compared_4 (by decide) (by first | rfl | trivial) ?_
          refine a_aloadn_0 (pc := 5) dX12_compared_5 ?_
          refine cv_X12_150 (pc := 6) rfl dX12_compared_6 hm_h1.2.2.1 (Nat.le_of_ble_eq_true rfl) ?_
          refine m_byteAt (by omega) hz hb (by omega) hm_h1 ?_
          refine a_istoren_2 (pc := 9) dX12_compared_9 (by decide) (by first | rfl | trivial) ?_
          refine a_aloadn_0 (pc := 10) dX12_compared_10 ?_
          refine mg_147 (x := (-1)) hm_h1 rfl dX12_compared_11 rfl ?_
          refine a_if_ge (pc := 14) (tgt := 35) dX12_compared_14 (by decide) (fun c_14 => absurd c_14 (by decide)) (fun c_14 => ?_)
          refine a_iloadn_2 (pc := 17) dX12_compared_17 ?_
          refine a_bipush (pc := 18) (v := nI 60) dX12_compared_18 (by decide) ?_
          refine n_icmp_eq (tgt := 37) dX12_compared_20 (by decide) (by omega) (by decide) (fun c_20 => by omega) (fun c_20 => ?_)
          refine a_iloadn_2 (pc := 23) dX12_compared_23 ?_
          refine a_bipush (pc := 24) (v := nI 61) dX12_compared_24 (by decide) ?_
          refine n_icmp_eq (tgt := 37) dX12_compared_26 (by decide) (by omega) (by decide) (fun c_26 => by omega) (fun c_26 => ?_)
          refine a_iloadn_2 (pc := 29) dX12_compared_29 ?_
          refine a_bipush (pc := 30) (v := nI 62) dX12_compared_30 (by decide) ?_
          refine n_icmp_eq (tgt := 37) dX12_compared_32 (by decide) (by omega) (by decide) (fun c_32 => ?_) (fun c_32 => by omega)
          refine a_aloadn_0 (pc := 37) dX12_compared_37 ?_
          refine a_dup (pc := 38) dX12_compared_38 rfl ?_
          refine mg_138 (x := q) hm_h1 rfl dX12_compared_39 rfl ?_
          refine a_iconst (pc := 42) (v := nI 1) dX12_compared_42 (by decide) ?_
          refine n_iadd dX12_compared_43 ?_
          refine mp_138 (x := q + 1) hm_h1 rfl dX12_compared_44 (fun h21 hm21 => ?_)
          refine a_aloadn_0 (pc := 47) dX12_compared_47 ?_
          refine cv_X12_163 (pc := 48) rfl dX12_compared_48 hm21.2.2.1 (Nat.le_of_ble_eq_true rfl) ?_
          refine I3 k (by omega) d _ (q + 1) op e _ _ (by omega) (by omega) (by omega) hr2 hm21 (fun h3 w H9 => ?_)
          obtain ⟨hm_h3, hv_h3⟩ := H9
          have hb_h3 := ps_pb c n hc0 _ _ _ _ _ _ hr2 (by omega) (by omega)
          have hq_h3 := hb_h3.1
          have hl_h3 := hb_h3.2.1
          refine a_istoren_3 (pc := 51) dX12_compared_51 (by decide) (by first | rfl | trivial) ?_
          refine a_iloadn_2 (pc := 52) dX12_compared_52 ?_
          refine a_bipush (pc := 53) (v := nI 60) dX12_compared_53 (by decide) ?_
          refine n_icmp_ne (tgt := 66) dX12_compared_55 (by decide) (by omega) (by decide) (fun c_55 => ?_) (fun c_55 => by omega)
          refine a_iloadn_2 (pc := 66) dX12_compared_66 ?_
          refine a_bipush (pc := 67) (v := nI 61) dX12_compared_67 (by decide) ?_
          refine n_icmp_ne (tgt := 80) dX12_compared_69 (by decide) (by omega) (by decide) (fun c_69 => ?_) (fun c_69 => by omega)
          refine a_iloadn_1 (pc := 80) dX12_compared_80 ?_
          refine a_iloadn_3 (pc := 81) dX12_compared_81 ?_
          refine a_icmp_le (pc := 82) (tgt := 89) dX12_compared_82 (by decide) (fun c_82 => ?_) (fun c_82 => ?_)
          · refine a_iconst (pc := 89) (v := nI 0) dX12_compared_89 (by decide) ?_
            exact a_iret (pc := 90) dX12_compared_90 rfl (zf hz) (kk _ _ ⟨hm_h3, by show _ = joinV (c q) (e _) (e2 _); rw [hcq, ← hv_h1, ← hv_h3]; show _ = (if v ≤ w then 0 else 1); first | (rw [if_pos c_82]; rfl) | (rw [if_neg c_82]; rfl)⟩)
          · refine a_iconst (pc := 85) (v := nI 1) dX12_compared_85 (by decide) ?_
            refine a_goto (pc := 86) (tgt := 90) dX12_compared_86 (by decide) ?_
            exact a_iret (pc := 90) dX12_compared_90 rfl (zf hz) (kk _ _ ⟨hm_h3, by show _ = joinV (c q) (e _) (e2 _); rw [hcq, ← hv_h1, ← hv_h3]; show _ = (if v ≤ w then 0 else 1); first | (rw [if_pos c_82]; rfl) | (rw [if_neg c_82]; rfl)⟩)

set_option maxRecDepth 100000 in
set_option maxHeartbeats 4000000 in
theorem mg3_s {G : Cx} {h0 : List va_E} {b : MB} {t : MT} {o : MO} {bs : Int32} {n : Nat} {nms c : Nat → Nat} {k : Nat} (hz : gz G = false) (hb : BYT b bs n c) (I4 : ∀ j, j ≤ k → Mg4 G h0 b t o bs n nms c j) : Mg3 G h0 b t o bs n nms c (k + 1) := by
  intro d h p op acc Q r hd hop hp H hm kk
  obtain ⟨d, rfl, he⟩ := dpos (k := 6 * (6 - op) + 5) (by omega)
  refine AM.of [some (.ref (gB G + 80)), none, none, none] pnX12 (Nat.le_of_ble_eq_true rfl) (by simp [lsub, lvI, Value.category]) ?_
  obtain ⟨hn, hc0, h255, -⟩ := id hb
  have fx : ∀ (h1 : List va_E) (f at1 op1 : Nat) (v : Int32), f ≤ n → at1 < 1000 → op ≤ op1 → r = .inl f → MS G h0 h1 (b, (bs, at1, n, (nI f), op1, nms), t, o) → AW G yX12_sums cX12_sums 4 (some .int) (rmx (d + 1) 0 0) (ZQ G 0 0 (h.length + 0) Q) 0 0 5 [some (.ref (gB G + 80)), some (.int (v)), none, none] [] h1 := by
    intro h1 f at1 op1 v hf1 ha1 ho1 hr hm1
    subst hr
    refine a_aloadn_0 (pc := 5) dX12_sums_5 ?_
    refine mg_147 (x := nI (f)) hm1 rfl dX12_sums_6 rfl ?_
    refine n_if_ge (tgt := 77) dX12_sums_9 (by decide) (by omega) ?_
    refine a_iloadn_1 (pc := 77) dX12_sums_77 ?_
    exact a_iret (pc := 78) dX12_sums_78 rfl (zf hz) (kk _ _ ⟨at1, op1, ho1, ha1, hm1⟩)
  have lp : ∀ (j : Nat) (h1 : List va_E) (q : Nat) (e : Ex) (v : Int32), j ≤ k → q ≤ n → ps c j 13 op q e = some r → MS G h0 h1 (b, (bs, q, n, (-1), op, nms), t, o) → v = e (fun j => nI (nms j)) → AW G yX12_sums cX12_sums 4 (some .int) (rmx (d + 1) 0 0) (ZQ G 0 0 (h.length + 0) Q) 0 0 5 [some (.ref (gB G + 80)), some (.int (v)), none, none] [] h1 := by
    intro j
    induction j with
    | zero => intro h1 q e v _ _ H; exact (ps_0 H).elim
    | succ j ih =>
      intro h1 q e v hj hq H hm1 hv
      have hcp := h255 q
      rcases ps_lp (L := 3) H with ⟨hl, rfl⟩ | ⟨hl, ⟨f, hr1, rfl⟩ | ⟨q2, e2, hr1, -, H⟩⟩
      · have gs := lvO_ne3 hl
        refine a_aloadn_0 (pc := 5) dX12_sums_5 ?_
        refine mg_147 (x := (-1)) hm1 rfl dX12_sums_6 rfl ?_
        refine a_if_ge (pc := 9) (tgt := 77) dX12_sums_9 (by decide) (fun c_9 => absurd c_9 (by decide)) (fun c_9 => ?_)
        refine a_aloadn_0 (pc := 12) dX12_sums_12 ?_
        refine cv_X12_150 (pc := 13) rfl dX12_sums_13 hm1.2.2.1 (Nat.le_of_ble_eq_true rfl) ?_
        refine m_byteAt (by omega) hz hb (by omega) hm1 ?_
        refine a_bipush (pc := 16) (v := nI 43) dX12_sums_16 (by decide) ?_
        refine n_icmp_eq (tgt := 30) dX12_sums_18 (by decide) (by omega) (by decide) (fun c_18 => by omega) (fun c_18 => ?_)
        refine a_aloadn_0 (pc := 21) dX12_sums_21 ?_
        refine cv_X12_150 (pc := 22) rfl dX12_sums_22 hm1.2.2.1 (Nat.le_of_ble_eq_true rfl) ?_
        refine m_byteAt (by omega) hz hb (by omega) hm1 ?_
        refine a_bipush (pc := 25) (v := nI 45) dX12_sums_25 (by decide) ?_
        refine n_icmp_ne (tgt := 77) dX12_sums_27 (by decide) (by omega) (by decide) (fun c_27 => ?_) (fun c_27 => by omega)
        refine a_iloadn_1 (pc := 77) dX12_sums_77 ?_
        exact a_iret (pc := 78) dX12_sums_78 rfl (zf hz) (kk _ _ ⟨hm1, hv⟩)
      · have hqn := lvO_lt hc0 (show lvO (c q) < 5 by omega)
        rcases (show c q = 43 ∨ c q = 45 by rcases lvO_of hl (by decide) with g | g | g | g | g <;> omega) with hcq | hcq
        · refine a_aloadn_0 (pc := 5) dX12_sums_5 ?_
          refine mg_147 (x := (-1)) hm1 rfl dX12_sums_6 rfl ?_
          refine a_if_ge (pc := 9) (tgt := 77) dX12_sums_9 (by decide) (fun c_9 => absurd c_9 (by decide)) (fun c_9 => ?_)
          refine a_aloadn_0 (pc := 12) dX12_sums_12 ?_
          refine cv_X12_150 (pc := 13) rfl dX12_sums_13 hm1.2.2.1 (Nat.le_of_ble_eq_true rfl) ?_
          refine m_byteAt (by omega) hz hb (by omega) hm1 ?_
          refine a_bipush (pc := 16) (v := nI 43) dX12_sums_16 (by decide) ?_
          refine n_icmp_eq (tgt := 30) dX12_sums_18 (by decide) (by omega) (by decide) (fun c_18 => ?_) (fun c_18 => by omega)
          refine a_aloadn_0 (pc := 30) dX12_sums_30 ?_
          refine cv_X12_150 (pc := 31) rfl dX12_sums_31 hm1.2.2.1 (Nat.le_of_ble_eq_true rfl) ?_
          refine m_byteAt (by omega) hz hb (by omega) hm1 ?_
          refine a_bipush (pc := 34) (v := nI 43) dX12_sums_34 (by decide) ?_
          refine n_icmp_ne (tgt := 43) dX12_sums_36 (by decide) (by omega) (by decide) (fun c_36 => by omega) (fun c_36 => ?_)
          refine a_iconst (pc := 39) (v := nI 1) dX12_sums_39 (by decide) ?_
          refine a_goto (pc := 40) (tgt := 44) dX12_sums_40 (by decide) ?_
          refine a_istoren_2 (pc := 44) dX12_sums_44 (by decide) (by first | rfl | trivial) ?_
          refine a_aloadn_0 (pc := 45) dX12_sums_45 ?_
          refine a_dup (pc := 46) dX12_sums_46 rfl ?_
          refine mg_138 (x := q) hm1 rfl dX12_sums_47 rfl ?_
          refine a_iconst (pc := 50) (v := nI 1) dX12_sums_50 (by decide) ?_
          refine n_iadd dX12_sums_51 ?_
          refine mp_138 (x := q + 1) hm1 rfl dX12_sums_52 (fun h21 hm21 => ?_)
          refine a_aloadn_0 (pc := 55) dX12_sums_55 ?_
          refine cv_X12_166 (pc := 56) rfl dX12_sums_56 hm21.2.2.1 (Nat.le_of_ble_eq_true rfl) ?_
          refine I4 j (by omega) d _ (q + 1) op e _ _ (by omega) (by omega) (by omega) hr1 hm21 (fun h3 w H9 => ?_)
          obtain ⟨at1, op1, ho1, ha1, hm_h3⟩ := H9
          have hf1 := (ps_pb c n hc0 _ _ _ _ _ _ hr1 (by omega) (by omega)).1
          refine a_istoren_3 (pc := 59) dX12_sums_59 (by decide) (by first | rfl | trivial) ?_
          refine a_iloadn_2 (pc := 60) dX12_sums_60 ?_
          refine n_if_eq (tgt := 70) dX12_sums_61 (by decide) (by decide) (fun c_61 => by omega) (fun c_61 => ?_)
          refine a_iloadn_1 (pc := 64) dX12_sums_64 ?_
          refine a_iloadn_3 (pc := 65) dX12_sums_65 ?_
          refine a_iadd (pc := 66) dX12_sums_66 ?_
          refine a_goto (pc := 67) (tgt := 73) dX12_sums_67 (by decide) ?_
          refine a_istoren_1 (pc := 73) dX12_sums_73 (by decide) (by first | rfl | trivial) ?_
          refine a_goto (pc := 74) (tgt := 5) dX12_sums_74 (by decide) ?_
          refine a_ls (ls' := [some _, some _, none, none, none]) ⟨rfl, rfl, trivial⟩ ?_
          exact fx _ f at1 op1 _ hf1 ha1 ho1 rfl hm_h3
        · refine a_aloadn_0 (pc := 5) dX12_sums_5 ?_
          refine mg_147 (x := (-1)) hm1 rfl dX12_sums_6 rfl ?_
          refine a_if_ge (pc := 9) (tgt := 77) dX12_sums_9 (by decide) (fun c_9 => absurd c_9 (by decide)) (fun c_9 => ?_)
          refine a_aloadn_0 (pc := 12) dX12_sums_12 ?_
          refine cv_X12_150 (pc := 13) rfl dX12_sums_13 hm1.2.2.1 (Nat.le_of_ble_eq_true rfl) ?_
          refine m_byteAt (by omega) hz hb (by omega) hm1 ?_
          refine a_bipush (pc := 16) (v := nI 43) dX12_sums_16 (by decide) ?_
          refine n_icmp_eq (tgt := 30) dX12_sums_18 (by decide) (by omega) (by decide) (fun c_18 => by omega) (fun c_18 => ?_)
          refine a_aloadn_0 (pc := 21) dX12_sums_21 ?_
          refine cv_X12_150 (pc := 22) rfl dX12_sums_22 hm1.2.2.1 (Nat.le_of_ble_eq_true rfl) ?_
          refine m_byteAt (by omega) hz hb (by omega) hm1 ?_
          refine a_bipush (pc := 25) (v := nI 45) dX12_sums_25 (by decide) ?_
          refine n_icmp_ne (tgt := 77) dX12_sums_27 (by decide) (by omega) (by decide) (fun c_27 => by omega) (fun c_27 => ?_)
          refine a_aloadn_0 (pc := 30) dX12_sums_30 ?_
          refine cv_X12_150 (pc := 31) rfl dX12_sums_31 hm1.2.2.1 (Nat.le_of_ble_eq_true rfl) ?_
          refine m_byteAt (by omega) hz hb (by omega) hm1 ?_
          refine a_bipush (pc := 34) (v := nI 43) dX12_sums_34 (by decide) ?_
          refine n_icmp_ne (tgt := 43) dX12_sums_36 (by decide) (by omega) (by decide) (fun c_36 => ?_) (fun c_36 => by omega)
          refine a_iconst (pc := 43) (v := nI 0) dX12_sums_43 (by decide) ?_
          refine a_istoren_2 (pc := 44) dX12_sums_44 (by decide) (by first | rfl | trivial) ?_
          refine a_aloadn_0 (pc := 45) dX12_sums_45 ?_
          refine a_dup (pc := 46) dX12_sums_46 rfl ?_
          refine mg_138 (x := q) hm1 rfl dX12_sums_47 rfl ?_
          refine a_iconst (pc := 50) (v := nI 1) dX12_sums_50 (by decide) ?_
          refine n_iadd dX12_sums_51 ?_
          refine mp_138 (x := q + 1) hm1 rfl dX12_sums_52 (fun h21 hm21 => ?_)
          refine a_aloadn_0 (pc := 55) dX12_sums_55 ?_
          refine cv_X12_166 (pc := 56) rfl dX12_sums_56 hm21.2.2.1 (Nat.le_of_ble_eq_true rfl) ?_
          refine I4 j (by omega) d _ (q + 1) op e _ _ (by omega) (by omega) (by omega) hr1 hm21 (fun h3 w H9 => ?_)
          obtain ⟨at1, op1, ho1, ha1, hm_h3⟩ := H9
          have hf1 := (ps_pb c n hc0 _ _ _ _ _ _ hr1 (by omega) (by omega)).1
          refine a_istoren_3 (pc := 59) dX12_sums_59 (by decide) (by first | rfl | trivial) ?_
          refine a_iloadn_2 (pc := 60) dX12_sums_60 ?_
          refine n_if_eq (tgt := 70) dX12_sums_61 (by decide) (by decide) (fun c_61 => ?_) (fun c_61 => by omega)
          refine a_iloadn_1 (pc := 70) dX12_sums_70 ?_
          refine a_iloadn_3 (pc := 71) dX12_sums_71 ?_
          refine a_isub (pc := 72) dX12_sums_72 ?_
          refine a_istoren_1 (pc := 73) dX12_sums_73 (by decide) (by first | rfl | trivial) ?_
          refine a_goto (pc := 74) (tgt := 5) dX12_sums_74 (by decide) ?_
          refine a_ls (ls' := [some _, some _, none, none, none]) ⟨rfl, rfl, trivial⟩ ?_
          exact fx _ f at1 op1 _ hf1 ha1 ho1 rfl hm_h3
      · have hqn := lvO_lt hc0 (show lvO (c q) < 5 by omega)
        have H := H (by decide)
        rcases (show c q = 43 ∨ c q = 45 by rcases lvO_of hl (by decide) with g | g | g | g | g <;> omega) with hcq | hcq
        · refine a_aloadn_0 (pc := 5) dX12_sums_5 ?_
          refine mg_147 (x := (-1)) hm1 rfl dX12_sums_6 rfl ?_
          refine a_if_ge (pc := 9) (tgt := 77) dX12_sums_9 (by decide) (fun c_9 => absurd c_9 (by decide)) (fun c_9 => ?_)
          refine a_aloadn_0 (pc := 12) dX12_sums_12 ?_
          refine cv_X12_150 (pc := 13) rfl dX12_sums_13 hm1.2.2.1 (Nat.le_of_ble_eq_true rfl) ?_
          refine m_byteAt (by omega) hz hb (by omega) hm1 ?_
          refine a_bipush (pc := 16) (v := nI 43) dX12_sums_16 (by decide) ?_
          refine n_icmp_eq (tgt := 30) dX12_sums_18 (by decide) (by omega) (by decide) (fun c_18 => ?_) (fun c_18 => by omega)
          refine a_aloadn_0 (pc := 30) dX12_sums_30 ?_
          refine cv_X12_150 (pc := 31) rfl dX12_sums_31 hm1.2.2.1 (Nat.le_of_ble_eq_true rfl) ?_
          refine m_byteAt (by omega) hz hb (by omega) hm1 ?_
          refine a_bipush (pc := 34) (v := nI 43) dX12_sums_34 (by decide) ?_
          refine n_icmp_ne (tgt := 43) dX12_sums_36 (by decide) (by omega) (by decide) (fun c_36 => by omega) (fun c_36 => ?_)
          refine a_iconst (pc := 39) (v := nI 1) dX12_sums_39 (by decide) ?_
          refine a_goto (pc := 40) (tgt := 44) dX12_sums_40 (by decide) ?_
          refine a_istoren_2 (pc := 44) dX12_sums_44 (by decide) (by first | rfl | trivial) ?_
          refine a_aloadn_0 (pc := 45) dX12_sums_45 ?_
          refine a_dup (pc := 46) dX12_sums_46 rfl ?_
          refine mg_138 (x := q) hm1 rfl dX12_sums_47 rfl ?_
          refine a_iconst (pc := 50) (v := nI 1) dX12_sums_50 (by decide) ?_
          refine n_iadd dX12_sums_51 ?_
          refine mp_138 (x := q + 1) hm1 rfl dX12_sums_52 (fun h21 hm21 => ?_)
          refine a_aloadn_0 (pc := 55) dX12_sums_55 ?_
          refine cv_X12_166 (pc := 56) rfl dX12_sums_56 hm21.2.2.1 (Nat.le_of_ble_eq_true rfl) ?_
          refine I4 j (by omega) d _ (q + 1) op e _ _ (by omega) (by omega) (by omega) hr1 hm21 (fun h3 w H9 => ?_)
          obtain ⟨hm_h3, hv_h3⟩ := H9
          have hb_h3 := ps_pb c n hc0 _ _ _ _ _ _ hr1 (by omega) (by omega)
          have hq_h3 := hb_h3.1
          have hl_h3 := hb_h3.2.1
          refine a_istoren_3 (pc := 59) dX12_sums_59 (by decide) (by first | rfl | trivial) ?_
          refine a_iloadn_2 (pc := 60) dX12_sums_60 ?_
          refine n_if_eq (tgt := 70) dX12_sums_61 (by decide) (by decide) (fun c_61 => by omega) (fun c_61 => ?_)
          refine a_iloadn_1 (pc := 64) dX12_sums_64 ?_
          refine a_iloadn_3 (pc := 65) dX12_sums_65 ?_
          refine a_iadd (pc := 66) dX12_sums_66 ?_
          refine a_goto (pc := 67) (tgt := 73) dX12_sums_67 (by decide) ?_
          refine a_istoren_1 (pc := 73) dX12_sums_73 (by decide) (by first | rfl | trivial) ?_
          refine a_goto (pc := 74) (tgt := 5) dX12_sums_74 (by decide) ?_
          refine a_ls (ls' := [some _, some _, none, none, none]) ⟨rfl, rfl, trivial⟩ ?_
          exact ih _ q2 _ _ (by omega) hq_h3 H hm_h3 (by show _ = joinV (c q) (e _) (e2 _); rw [hcq, ← hv, ← hv_h3]; show _ = v + w; first | (rfl))
        · refine a_aloadn_0 (pc := 5) dX12_sums_5 ?_
          refine mg_147 (x := (-1)) hm1 rfl dX12_sums_6 rfl ?_
          refine a_if_ge (pc := 9) (tgt := 77) dX12_sums_9 (by decide) (fun c_9 => absurd c_9 (by decide)) (fun c_9 => ?_)
          refine a_aloadn_0 (pc := 12) dX12_sums_12 ?_
          refine cv_X12_150 (pc := 13) rfl dX12_sums_13 hm1.2.2.1 (Nat.le_of_ble_eq_true rfl) ?_
          refine m_byteAt (by omega) hz hb (by omega) hm1 ?_
          refine a_bipush (pc := 16) (v := nI 43) dX12_sums_16 (by decide) ?_
          refine n_icmp_eq (tgt := 30) dX12_sums_18 (by decide) (by omega) (by decide) (fun c_18 => by omega) (fun c_18 => ?_)
          refine a_aloadn_0 (pc := 21) dX12_sums_21 ?_
          refine cv_X12_150 (pc := 22) rfl dX12_sums_22 hm1.2.2.1 (Nat.le_of_ble_eq_true rfl) ?_
          refine m_byteAt (by omega) hz hb (by omega) hm1 ?_
          refine a_bipush (pc := 25) (v := nI 45) dX12_sums_25 (by decide) ?_
          refine n_icmp_ne (tgt := 77) dX12_sums_27 (by decide) (by omega) (by decide) (fun c_27 => by omega) (fun c_27 => ?_)
          refine a_aloadn_0 (pc := 30) dX12_sums_30 ?_
          refine cv_X12_150 (pc := 31) rfl dX12_sums_31 hm1.2.2.1 (Nat.le_of_ble_eq_true rfl) ?_
          refine m_byteAt (by omega) hz hb (by omega) hm1 ?_
          refine a_bipush (pc := 34) (v := nI 43) dX12_sums_34 (by decide) ?_
          refine n_icmp_ne (tgt := 43) dX12_sums_36 (by decide) (by omega) (by decide) (fun c_36 => ?_) (fun c_36 => by omega)
          refine a_iconst (pc := 43) (v := nI 0) dX12_sums_43 (by decide) ?_
          refine a_istoren_2 (pc := 44) dX12_sums_44 (by decide) (by first | rfl | trivial) ?_
          refine a_aloadn_0 (pc := 45) dX12_sums_45 ?_
          refine a_dup (pc := 46) dX12_sums_46 rfl ?_
          refine mg_138 (x := q) hm1 rfl dX12_sums_47 rfl ?_
          refine a_iconst (pc := 50) (v := nI 1) dX12_sums_50 (by decide) ?_
          refine n_iadd dX12_sums_51 ?_
          refine mp_138 (x := q + 1) hm1 rfl dX12_sums_52 (fun h21 hm21 => ?_)
          refine a_aloadn_0 (pc := 55) dX12_sums_55 ?_
          refine cv_X12_166 (pc := 56) rfl dX12_sums_56 hm21.2.2.1 (Nat.le_of_ble_eq_true rfl) ?_
          refine I4 j (by omega) d _ (q + 1) op e _ _ (by omega) (by omega) (by omega) hr1 hm21 (fun h3 w H9 => ?_)
          obtain ⟨hm_h3, hv_h3⟩ := H9
          have hb_h3 := ps_pb c n hc0 _ _ _ _ _ _ hr1 (by omega) (by omega)
          have hq_h3 := hb_h3.1
          have hl_h3 := hb_h3.2.1
          refine a_istoren_3 (pc := 59) dX12_sums_59 (by decide) (by first | rfl | trivial) ?_
          refine a_iloadn_2 (pc := 60) dX12_sums_60 ?_
          refine n_if_eq (tgt := 70) dX12_sums_61 (by decide) (by decide) (fun c_61 => ?_) (fun c_61 => by omega)
          refine a_iloadn_1 (pc := 70) dX12_sums_70 ?_
          refine a_iloadn_3 (pc := 71) dX12_sums_71 ?_
          refine a_isub (pc := 72) dX12_sums_72 ?_
          refine a_istoren_1 (pc := 73) dX12_sums_73 (by decide) (by first | rfl | trivial) ?_
          refine a_goto (pc := 74) (tgt := 5) dX12_sums_74 (by decide) ?_
          refine a_ls (ls' := [some _, some _, none, none, none]) ⟨rfl, rfl, trivial⟩ ?_
          exact ih _ q2 _ _ (by omega) hq_h3 H hm_h3 (by show _ = joinV (c q) (e _) (e2 _); rw [hcq, ← hv, ← hv_h3]; show _ = v - w; first | (rfl))
  rcases ps_lv (by decide) H with ⟨f, hr1, rfl⟩ | ⟨q, e, hr1, H⟩
  · refine a_aloadn_0 (pc := 0) dX12_sums_0 ?_
    refine cv_X12_166 (pc := 1) rfl dX12_sums_1 hm.2.2.1 (Nat.le_of_ble_eq_true rfl) ?_
    refine I4 k (Nat.le_refl k) d h p op acc _ _ (by omega) (by omega) (by omega) hr1 hm (fun h1 v H9 => ?_)
    obtain ⟨at1, op1, ho1, ha1, hm_h1⟩ := H9
    have hf1 := (ps_pb c n hc0 _ _ _ _ _ _ hr1 (by omega) (by omega)).1
    refine a_istoren_1 (pc := 4) dX12_sums_4 (by decide) (by first | rfl | trivial) ?_
    exact fx _ f at1 op1 _ hf1 ha1 ho1 rfl hm_h1
  · refine a_aloadn_0 (pc := 0) dX12_sums_0 ?_
    refine cv_X12_166 (pc := 1) rfl dX12_sums_1 hm.2.2.1 (Nat.le_of_ble_eq_true rfl) ?_
    refine I4 k (Nat.le_refl k) d h p op acc _ _ (by omega) (by omega) (by omega) hr1 hm (fun h1 v H9 => ?_)
    obtain ⟨hm_h1, hv_h1⟩ := H9
    have hb_h1 := ps_pb c n hc0 _ _ _ _ _ _ hr1 (by omega) (by omega)
    have hq_h1 := hb_h1.1
    have hl_h1 := hb_h1.2.1
    refine a_istoren_1 (pc := 4) dX12_sums_4 (by decide) (by first | rfl | trivial) ?_
    exact lp k _ q e _ (Nat.le_refl k) hq_h1 H hm_h1 hv_h1
set_option maxRecDepth 100000 in
set_option maxHeartbeats 4000000 in
theorem mg4_s {G : Cx} {h0 : List va_E} {b : MB} {t : MT} {o : MO} {bs : Int32} {n : Nat} {nms c : Nat → Nat} {k : Nat} (hz : gz G = false) (hb : BYT b bs n c) (I5 : ∀ j, j ≤ k → Mg5 G h0 b t o bs n nms c j) : Mg4 G h0 b t o bs n nms c (k + 1) := by
  intro d h p op acc Q r hd hop hp H hm kk
  obtain ⟨d, rfl, he⟩ := dpos (k := 6 * (6 - op) + 4) (by omega)
  refine AM.of [some (.ref (gB G + 80)), none, none, none] pnX12 (Nat.le_of_ble_eq_true rfl) (by simp [lsub, lvI, Value.category]) ?_
  obtain ⟨hn, hc0, h255, -⟩ := id hb
  have fx : ∀ (h1 : List va_E) (f at1 op1 : Nat) (v : Int32) (x : Nat), f ≤ n → at1 < 1000 → op ≤ op1 → r = .inl f → MS G h0 h1 (b, (bs, at1, n, (nI f), op1, nms), t, o) → AW G yX12_product cX12_product 4 (some .int) (rmx (d + 1) 0 0) (ZQ G 0 0 (h.length + 0) Q) 0 0 10 [some (.ref (gB G + 80)), some (.int (v)), some (.int (nI (x))), none] [] h1 := by
    intro h1 f at1 op1 v x hf1 ha1 ho1 hr hm1
    subst hr
    refine a_aloadn_0 (pc := 10) dX12_product_10 ?_
    refine mg_147 (x := nI (f)) hm1 rfl dX12_product_11 rfl ?_
    refine n_if_ge (tgt := 94) dX12_product_14 (by decide) (by omega) ?_
    refine a_iloadn_1 (pc := 94) dX12_product_94 ?_
    exact a_iret (pc := 95) dX12_product_95 rfl (zf hz) (kk _ _ ⟨at1, op1, ho1, ha1, hm1⟩)
  have lp : ∀ (j : Nat) (h1 : List va_E) (q : Nat) (e : Ex) (v : Int32), j ≤ k → q ≤ n → ps c j 14 op q e = some r → MS G h0 h1 (b, (bs, q, n, (-1), op, nms), t, o) → v = e (fun j => nI (nms j)) → AW G yX12_product cX12_product 4 (some .int) (rmx (d + 1) 0 0) (ZQ G 0 0 (h.length + 0) Q) 0 0 10 [some (.ref (gB G + 80)), some (.int (v)), some (.int (nI (c q))), none] [] h1 := by
    intro j
    induction j with
    | zero => intro h1 q e v _ _ H; exact (ps_0 H).elim
    | succ j ih =>
      intro h1 q e v hj hq H hm1 hv
      have hcp := h255 q
      rcases ps_lp (L := 4) H with ⟨hl, rfl⟩ | ⟨hl, ⟨f, hr1, rfl⟩ | ⟨q2, e2, hr1, -, H⟩⟩
      · have gs := lvO_ne4 hl
        refine a_aloadn_0 (pc := 10) dX12_product_10 ?_
        refine mg_147 (x := (-1)) hm1 rfl dX12_product_11 rfl ?_
        refine a_if_ge (pc := 14) (tgt := 94) dX12_product_14 (by decide) (fun c_14 => absurd c_14 (by decide)) (fun c_14 => ?_)
        refine a_iloadn_2 (pc := 17) dX12_product_17 ?_
        refine a_bipush (pc := 18) (v := nI 42) dX12_product_18 (by decide) ?_
        refine n_icmp_eq (tgt := 35) dX12_product_20 (by decide) (by omega) (by decide) (fun c_20 => by omega) (fun c_20 => ?_)
        refine a_iloadn_2 (pc := 23) dX12_product_23 ?_
        refine a_bipush (pc := 24) (v := nI 47) dX12_product_24 (by decide) ?_
        refine n_icmp_eq (tgt := 35) dX12_product_26 (by decide) (by omega) (by decide) (fun c_26 => by omega) (fun c_26 => ?_)
        refine a_iloadn_2 (pc := 29) dX12_product_29 ?_
        refine a_bipush (pc := 30) (v := nI 37) dX12_product_30 (by decide) ?_
        refine n_icmp_ne (tgt := 94) dX12_product_32 (by decide) (by omega) (by decide) (fun c_32 => ?_) (fun c_32 => by omega)
        refine a_iloadn_1 (pc := 94) dX12_product_94 ?_
        exact a_iret (pc := 95) dX12_product_95 rfl (zf hz) (kk _ _ ⟨hm1, hv⟩)
      · have hqn := lvO_lt hc0 (show lvO (c q) < 5 by omega)
        rcases (show c q = 42 ∨ c q = 47 ∨ c q = 37 by rcases lvO_of hl (by decide) with g | g | g | g | g <;> omega) with hcq | hcq | hcq
        · refine a_aloadn_0 (pc := 10) dX12_product_10 ?_
          refine mg_147 (x := (-1)) hm1 rfl dX12_product_11 rfl ?_
          refine a_if_ge (pc := 14) (tgt := 94) dX12_product_14 (by decide) (fun c_14 => absurd c_14 (by decide)) (fun c_14 => ?_)
          refine a_iloadn_2 (pc := 17) dX12_product_17 ?_
          refine a_bipush (pc := 18) (v := nI 42) dX12_product_18 (by decide) ?_
          refine n_icmp_eq (tgt := 35) dX12_product_20 (by decide) (by omega) (by decide) (fun c_20 => ?_) (fun c_20 => by omega)
          refine a_aloadn_0 (pc := 35) dX12_product_35 ?_
          refine a_dup (pc := 36) dX12_product_36 rfl ?_
          refine mg_138 (x := q) hm1 rfl dX12_product_37 rfl ?_
          refine a_iconst (pc := 40) (v := nI 1) dX12_product_40 (by decide) ?_
          refine n_iadd dX12_product_41 ?_
          refine mp_138 (x := q + 1) hm1 rfl dX12_product_42 (fun h21 hm21 => ?_)
          refine a_aloadn_0 (pc := 45) dX12_product_45 ?_
          refine cv_X12_169 (pc := 46) rfl dX12_product_46 hm21.2.2.1 (Nat.le_of_ble_eq_true rfl) ?_
          refine I5 j (by omega) d _ (q + 1) op e _ _ (by omega) (by omega) (by omega) hr1 hm21 (fun h3 w H9 => ?_)
          obtain ⟨at1, op1, ho1, ha1, hm_h3⟩ := H9
          have hf1 := (ps_pb c n hc0 _ _ _ _ _ _ hr1 (by omega) (by omega)).1
          refine a_istoren_3 (pc := 49) dX12_product_49 (by decide) (by first | rfl | trivial) ?_
          refine a_iloadn_2 (pc := 50) dX12_product_50 ?_
          refine a_bipush (pc := 51) (v := nI 42) dX12_product_51 (by decide) ?_
          refine n_icmp_ne (tgt := 62) dX12_product_53 (by decide) (by omega) (by decide) (fun c_53 => by omega) (fun c_53 => ?_)
          refine a_iloadn_1 (pc := 56) dX12_product_56 ?_
          refine a_iloadn_3 (pc := 57) dX12_product_57 ?_
          refine a_imul (pc := 58) dX12_product_58 ?_
          refine a_goto (pc := 59) (tgt := 85) dX12_product_59 (by decide) ?_
          refine a_istoren_1 (pc := 85) dX12_product_85 (by decide) (by first | rfl | trivial) ?_
          refine a_aloadn_0 (pc := 86) dX12_product_86 ?_
          refine cv_X12_150 (pc := 87) rfl dX12_product_87 hm_h3.2.2.1 (Nat.le_of_ble_eq_true rfl) ?_
          refine m_byteAt (by omega) hz hb (by omega) hm_h3 ?_
          refine a_istoren_2 (pc := 90) dX12_product_90 (by decide) (by first | rfl | trivial) ?_
          refine a_goto (pc := 91) (tgt := 10) dX12_product_91 (by decide) ?_
          refine a_ls (ls' := [some _, some _, some _, none, none]) ⟨rfl, rfl, rfl, trivial⟩ ?_
          exact fx _ f at1 op1 _ _ hf1 ha1 ho1 rfl hm_h3
        · refine a_aloadn_0 (pc := 10) dX12_product_10 ?_
          refine mg_147 (x := (-1)) hm1 rfl dX12_product_11 rfl ?_
          refine a_if_ge (pc := 14) (tgt := 94) dX12_product_14 (by decide) (fun c_14 => absurd c_14 (by decide)) (fun c_14 => ?_)
          refine a_iloadn_2 (pc := 17) dX12_product_17 ?_
          refine a_bipush (pc := 18) (v := nI 42) dX12_product_18 (by decide) ?_
          refine n_icmp_eq (tgt := 35) dX12_product_20 (by decide) (by omega) (by decide) (fun c_20 => by omega) (fun c_20 => ?_)
          refine a_iloadn_2 (pc := 23) dX12_product_23 ?_
          refine a_bipush (pc := 24) (v := nI 47) dX12_product_24 (by decide) ?_
          refine n_icmp_eq (tgt := 35) dX12_product_26 (by decide) (by omega) (by decide) (fun c_26 => ?_) (fun c_26 => by omega)
          refine a_aloadn_0 (pc := 35) dX12_product_35 ?_
          refine a_dup (pc := 36) dX12_product_36 rfl ?_
          refine mg_138 (x := q) hm1 rfl dX12_product_37 rfl ?_
          refine a_iconst (pc := 40) (v := nI 1) dX12_product_40 (by decide) ?_
          refine n_iadd dX12_product_41 ?_
          refine mp_138 (x := q + 1) hm1 rfl dX12_product_42 (fun h21 hm21 => ?_)
          refine a_aloadn_0 (pc := 45) dX12_product_45 ?_
          refine cv_X12_169 (pc := 46) rfl dX12_product_46 hm21.2.2.1 (Nat.le_of_ble_eq_true rfl) ?_
          refine I5 j (by omega) d _ (q + 1) op e _ _ (by omega) (by omega) (by omega) hr1 hm21 (fun h3 w H9 => ?_)
          obtain ⟨at1, op1, ho1, ha1, hm_h3⟩ := H9
          have hf1 := (ps_pb c n hc0 _ _ _ _ _ _ hr1 (by omega) (by omega)).1
          refine a_istoren_3 (pc := 49) dX12_product_49 (by decide) (by first | rfl | trivial) ?_
          refine a_iloadn_2 (pc := 50) dX12_product_50 ?_
          refine a_bipush (pc := 51) (v := nI 42) dX12_product_51 (by decide) ?_
          refine n_icmp_ne (tgt := 62) dX12_product_53 (by decide) (by omega) (by decide) (fun c_53 => ?_) (fun c_53 => by omega)
          refine a_iloadn_3 (pc := 62) dX12_product_62 ?_
          refine a_if_ne (pc := 63) (tgt := 70) dX12_product_63 (by decide) (fun c_63 => ?_) (fun c_63 => ?_)
          · refine a_iloadn_2 (pc := 70) dX12_product_70 ?_
            refine a_bipush (pc := 71) (v := nI 47) dX12_product_71 (by decide) ?_
            refine n_icmp_ne (tgt := 82) dX12_product_73 (by decide) (by omega) (by decide) (fun c_73 => by omega) (fun c_73 => ?_)
            refine a_iloadn_1 (pc := 76) dX12_product_76 ?_
            refine a_iloadn_3 (pc := 77) dX12_product_77 ?_
            refine a_idiv (pc := 78) dX12_product_78 c_63 ?_
            refine a_goto (pc := 79) (tgt := 85) dX12_product_79 (by decide) ?_
            refine a_istoren_1 (pc := 85) dX12_product_85 (by decide) (by first | rfl | trivial) ?_
            refine a_aloadn_0 (pc := 86) dX12_product_86 ?_
            refine cv_X12_150 (pc := 87) rfl dX12_product_87 hm_h3.2.2.1 (Nat.le_of_ble_eq_true rfl) ?_
            refine m_byteAt (by omega) hz hb (by omega) hm_h3 ?_
            refine a_istoren_2 (pc := 90) dX12_product_90 (by decide) (by first | rfl | trivial) ?_
            refine a_goto (pc := 91) (tgt := 10) dX12_product_91 (by decide) ?_
            refine a_ls (ls' := [some _, some _, some _, none, none]) ⟨rfl, rfl, rfl, trivial⟩ ?_
            exact fx _ f at1 op1 _ _ hf1 ha1 ho1 rfl hm_h3
          · refine a_iconst (pc := 66) (v := nI 0) dX12_product_66 (by decide) ?_
            refine a_goto (pc := 67) (tgt := 85) dX12_product_67 (by decide) ?_
            refine a_istoren_1 (pc := 85) dX12_product_85 (by decide) (by first | rfl | trivial) ?_
            refine a_aloadn_0 (pc := 86) dX12_product_86 ?_
            refine cv_X12_150 (pc := 87) rfl dX12_product_87 hm_h3.2.2.1 (Nat.le_of_ble_eq_true rfl) ?_
            refine m_byteAt (by omega) hz hb (by omega) hm_h3 ?_
            refine a_istoren_2 (pc := 90) dX12_product_90 (by decide) (by first | rfl | trivial) ?_
            refine a_goto (pc := 91) (tgt := 10) dX12_product_91 (by decide) ?_
            refine a_ls (ls' := [some _, some _, some _, none, none]) ⟨rfl, rfl, rfl, trivial⟩ ?_
            exact fx _ f at1 op1 _ _ hf1 ha1 ho1 rfl hm_h3
        · refine a_aloadn_0 (pc := 10) dX12_product_10 ?_
          refine mg_147 (x := (-1)) hm1 rfl dX12_product_11 rfl ?_
          refine a_if_ge (pc := 14) (tgt := 94) dX12_product_14 (by decide) (fun c_14 => absurd c_14 (by decide)) (fun c_14 => ?_)
          refine a_iloadn_2 (pc := 17) dX12_product_17 ?_
          refine a_bipush (pc := 18) (v := nI 42) dX12_product_18 (by decide) ?_
          refine n_icmp_eq (tgt := 35) dX12_product_20 (by decide) (by omega) (by decide) (fun c_20 => by omega) (fun c_20 => ?_)
          refine a_iloadn_2 (pc := 23) dX12_product_23 ?_
          refine a_bipush (pc := 24) (v := nI 47) dX12_product_24 (by decide) ?_
          refine n_icmp_eq (tgt := 35) dX12_product_26 (by decide) (by omega) (by decide) (fun c_26 => by omega) (fun c_26 => ?_)
          refine a_iloadn_2 (pc := 29) dX12_product_29 ?_
          refine a_bipush (pc := 30) (v := nI 37) dX12_product_30 (by decide) ?_
          refine n_icmp_ne (tgt := 94) dX12_product_32 (by decide) (by omega) (by decide) (fun c_32 => by omega) (fun c_32 => ?_)
          refine a_aloadn_0 (pc := 35) dX12_product_35 ?_
          refine a_dup (pc := 36) dX12_product_36 rfl ?_
          refine mg_138 (x := q) hm1 rfl dX12_product_37 rfl ?_
          refine a_iconst (pc := 40) (v := nI 1) dX12_product_40 (by decide) ?_
          refine n_iadd dX12_product_41 ?_
          refine mp_138 (x := q + 1) hm1 rfl dX12_product_42 (fun h21 hm21 => ?_)
          refine a_aloadn_0 (pc := 45) dX12_product_45 ?_
          refine cv_X12_169 (pc := 46) rfl dX12_product_46 hm21.2.2.1 (Nat.le_of_ble_eq_true rfl) ?_
          refine I5 j (by omega) d _ (q + 1) op e _ _ (by omega) (by omega) (by omega) hr1 hm21 (fun h3 w H9 => ?_)
          obtain ⟨at1, op1, ho1, ha1, hm_h3⟩ := H9
          have hf1 := (ps_pb c n hc0 _ _ _ _ _ _ hr1 (by omega) (by omega)).1
          refine a_istoren_3 (pc := 49) dX12_product_49 (by decide) (by first | rfl | trivial) ?_
          refine a_iloadn_2 (pc := 50) dX12_product_50 ?_
          refine a_bipush (pc := 51) (v := nI 42) dX12_product_51 (by decide) ?_
          refine n_icmp_ne (tgt := 62) dX12_product_53 (by decide) (by omega) (by decide) (fun c_53 => ?_) (fun c_53 => by omega)
          refine a_iloadn_3 (pc := 62) dX12_product_62 ?_
          refine a_if_ne (pc := 63) (tgt := 70) dX12_product_63 (by decide) (fun c_63 => ?_) (fun c_63 => ?_)
          · refine a_iloadn_2 (pc := 70) dX12_product_70 ?_
            refine a_bipush (pc := 71) (v := nI 47) dX12_product_71 (by decide) ?_
            refine n_icmp_ne (tgt := 82) dX12_product_73 (by decide) (by omega) (by decide) (fun c_73 => ?_) (fun c_73 => by omega)
            refine a_iloadn_1 (pc := 82) dX12_product_82 ?_
            refine a_iloadn_3 (pc := 83) dX12_product_83 ?_
            refine a_irem (pc := 84) dX12_product_84 c_63 ?_
            refine a_istoren_1 (pc := 85) dX12_product_85 (by decide) (by first | rfl | trivial) ?_
            refine a_aloadn_0 (pc := 86) dX12_product_86 ?_
            refine cv_X12_150 (pc := 87) rfl dX12_product_87 hm_h3.2.2.1 (Nat.le_of_ble_eq_true rfl) ?_
            refine m_byteAt (by omega) hz hb (by omega) hm_h3 ?_
            refine a_istoren_2 (pc := 90) dX12_product_90 (by decide) (by first | rfl | trivial) ?_
            refine a_goto (pc := 91) (tgt := 10) dX12_product_91 (by decide) ?_
            refine a_ls (ls' := [some _, some _, some _, none, none]) ⟨rfl, rfl, rfl, trivial⟩ ?_
            exact fx _ f at1 op1 _ _ hf1 ha1 ho1 rfl hm_h3
          · refine a_iconst (pc := 66) (v := nI 0) dX12_product_66 (by decide) ?_
            refine a_goto (pc := 67) (tgt := 85) dX12_product_67 (by decide) ?_
            refine a_istoren_1 (pc := 85) dX12_product_85 (by decide) (by first | rfl | trivial) ?_
            refine a_aloadn_0 (pc := 86) dX12_product_86 ?_
            refine cv_X12_150 (pc := 87) rfl dX12_product_87 hm_h3.2.2.1 (Nat.le_of_ble_eq_true rfl) ?_
            refine m_byteAt (by omega) hz hb (by omega) hm_h3 ?_
            refine a_istoren_2 (pc := 90) dX12_product_90 (by decide) (by first | rfl | trivial) ?_
            refine a_goto (pc := 91) (tgt := 10) dX12_product_91 (by decide) ?_
            refine a_ls (ls' := [some _, some _, some _, none, none]) ⟨rfl, rfl, rfl, trivial⟩ ?_
            exact fx _ f at1 op1 _ _ hf1 ha1 ho1 rfl hm_h3
      · have hqn := lvO_lt hc0 (show lvO (c q) < 5 by omega)
        have H := H (by decide)
        rcases (show c q = 42 ∨ c q = 47 ∨ c q = 37 by rcases lvO_of hl (by decide) with g | g | g | g | g <;> omega) with hcq | hcq | hcq
        · refine a_aloadn_0 (pc := 10) dX12_product_10 ?_
          refine mg_147 (x := (-1)) hm1 rfl dX12_product_11 rfl ?_
          refine a_if_ge (pc := 14) (tgt := 94) dX12_product_14 (by decide) (fun c_14 => absurd c_14 (by decide)) (fun c_14 => ?_)
          refine a_iloadn_2 (pc := 17) dX12_product_17 ?_
          refine a_bipush (pc := 18) (v := nI 42) dX12_product_18 (by decide) ?_
          refine n_icmp_eq (tgt := 35) dX12_product_20 (by decide) (by omega) (by decide) (fun c_20 => ?_) (fun c_20 => by omega)
          refine a_aloadn_0 (pc := 35) dX12_product_35 ?_
          refine a_dup (pc := 36) dX12_product_36 rfl ?_
          refine mg_138 (x := q) hm1 rfl dX12_product_37 rfl ?_
          refine a_iconst (pc := 40) (v := nI 1) dX12_product_40 (by decide) ?_
          refine n_iadd dX12_product_41 ?_
          refine mp_138 (x := q + 1) hm1 rfl dX12_product_42 (fun h21 hm21 => ?_)
          refine a_aloadn_0 (pc := 45) dX12_product_45 ?_
          refine cv_X12_169 (pc := 46) rfl dX12_product_46 hm21.2.2.1 (Nat.le_of_ble_eq_true rfl) ?_
          refine I5 j (by omega) d _ (q + 1) op e _ _ (by omega) (by omega) (by omega) hr1 hm21 (fun h3 w H9 => ?_)
          obtain ⟨hm_h3, hv_h3⟩ := H9
          have hb_h3 := ps_pb c n hc0 _ _ _ _ _ _ hr1 (by omega) (by omega)
          have hq_h3 := hb_h3.1
          have hl_h3 := hb_h3.2.1
          refine a_istoren_3 (pc := 49) dX12_product_49 (by decide) (by first | rfl | trivial) ?_
          refine a_iloadn_2 (pc := 50) dX12_product_50 ?_
          refine a_bipush (pc := 51) (v := nI 42) dX12_product_51 (by decide) ?_
          refine n_icmp_ne (tgt := 62) dX12_product_53 (by decide) (by omega) (by decide) (fun c_53 => by omega) (fun c_53 => ?_)
          refine a_iloadn_1 (pc := 56) dX12_product_56 ?_
          refine a_iloadn_3 (pc := 57) dX12_product_57 ?_
          refine a_imul (pc := 58) dX12_product_58 ?_
          refine a_goto (pc := 59) (tgt := 85) dX12_product_59 (by decide) ?_
          refine a_istoren_1 (pc := 85) dX12_product_85 (by decide) (by first | rfl | trivial) ?_
          refine a_aloadn_0 (pc := 86) dX12_product_86 ?_
          refine cv_X12_150 (pc := 87) rfl dX12_product_87 hm_h3.2.2.1 (Nat.le_of_ble_eq_true rfl) ?_
          refine m_byteAt (by omega) hz hb (by omega) hm_h3 ?_
          refine a_istoren_2 (pc := 90) dX12_product_90 (by decide) (by first | rfl | trivial) ?_
          refine a_goto (pc := 91) (tgt := 10) dX12_product_91 (by decide) ?_
          refine a_ls (ls' := [some _, some _, some _, none, none]) ⟨rfl, rfl, rfl, trivial⟩ ?_
          exact ih _ q2 _ _ (by omega) hq_h3 H hm_h3 (by show _ = joinV (c q) (e _) (e2 _); rw [hcq, ← hv, ← hv_h3]; show _ = v * w; first | (rfl))
        · refine a_aloadn_0 (pc := 10) dX12_product_10 ?_
          refine mg_147 (x := (-1)) hm1 rfl dX12_product_11 rfl ?_
          refine a_if_ge (pc := 14) (tgt := 94) dX12_product_14 (by decide) (fun c_14 => absurd c_14 (by decide)) (fun c_14 => ?_)
          refine a_iloadn_2 (pc := 17) dX12_product_17 ?_
          refine a_bipush (pc := 18) (v := nI 42) dX12_product_18 (by decide) ?_
          refine n_icmp_eq (tgt := 35) dX12_product_20 (by decide) (by omega) (by decide) (fun c_20 => by omega) (fun c_20 => ?_)
          refine a_iloadn_2 (pc := 23) dX12_product_23 ?_
          refine a_bipush (pc := 24) (v := nI 47) dX12_product_24 (by decide) ?_
          refine n_icmp_eq (tgt := 35) dX12_product_26 (by decide) (by omega) (by decide) (fun c_26 => ?_) (fun c_26 => by omega)
          refine a_aloadn_0 (pc := 35) dX12_product_35 ?_
          refine a_dup (pc := 36) dX12_product_36 rfl ?_
          refine mg_138 (x := q) hm1 rfl dX12_product_37 rfl ?_
          refine a_iconst (pc := 40) (v := nI 1) dX12_product_40 (by decide) ?_
          refine n_iadd dX12_product_41 ?_
          refine mp_138 (x := q + 1) hm1 rfl dX12_product_42 (fun h21 hm21 => ?_)
          refine a_aloadn_0 (pc := 45) dX12_product_45 ?_
          refine cv_X12_169 (pc := 46) rfl dX12_product_46 hm21.2.2.1 (Nat.le_of_ble_eq_true rfl) ?_
          refine I5 j (by omega) d _ (q + 1) op e _ _ (by omega) (by omega) (by omega) hr1 hm21 (fun h3 w H9 => ?_)
          obtain ⟨hm_h3, hv_h3⟩ := H9
          have hb_h3 := ps_pb c n hc0 _ _ _ _ _ _ hr1 (by omega) (by omega)
          have hq_h3 := hb_h3.1
          have hl_h3 := hb_h3.2.1
          refine a_istoren_3 (pc := 49) dX12_product_49 (by decide) (by first | rfl | trivial) ?_
          refine a_iloadn_2 (pc := 50) dX12_product_50 ?_
          refine a_bipush (pc := 51) (v := nI 42) dX12_product_51 (by decide) ?_
          refine n_icmp_ne (tgt := 62) dX12_product_53 (by decide) (by omega) (by decide) (fun c_53 => ?_) (fun c_53 => by omega)
          refine a_iloadn_3 (pc := 62) dX12_product_62 ?_
          refine a_if_ne (pc := 63) (tgt := 70) dX12_product_63 (by decide) (fun c_63 => ?_) (fun c_63 => ?_)
          · refine a_iloadn_2 (pc := 70) dX12_product_70 ?_
            refine a_bipush (pc := 71) (v := nI 47) dX12_product_71 (by decide) ?_
            refine n_icmp_ne (tgt := 82) dX12_product_73 (by decide) (by omega) (by decide) (fun c_73 => by omega) (fun c_73 => ?_)
            refine a_iloadn_1 (pc := 76) dX12_product_76 ?_
            refine a_iloadn_3 (pc := 77) dX12_product_77 ?_
            refine a_idiv (pc := 78) dX12_product_78 c_63 ?_
            refine a_goto (pc := 79) (tgt := 85) dX12_product_79 (by decide) ?_
            refine a_istoren_1 (pc := 85) dX12_product_85 (by decide) (by first | rfl | trivial) ?_
            refine a_aloadn_0 (pc := 86) dX12_product_86 ?_
            refine cv_X12_150 (pc := 87) rfl dX12_product_87 hm_h3.2.2.1 (Nat.le_of_ble_eq_true rfl) ?_
            refine m_byteAt (by omega) hz hb (by omega) hm_h3 ?_
            refine a_istoren_2 (pc := 90) dX12_product_90 (by decide) (by first | rfl | trivial) ?_
            refine a_goto (pc := 91) (tgt := 10) dX12_product_91 (by decide) ?_
            refine a_ls (ls' := [some _, some _, some _, none, none]) ⟨rfl, rfl, rfl, trivial⟩ ?_
            exact ih _ q2 _ _ (by omega) hq_h3 H hm_h3 (by show _ = joinV (c q) (e _) (e2 _); rw [hcq, ← hv, ← hv_h3]; show _ = (if w = 0 then 0 else v / w); first | (rw [if_pos c_63]; rfl) | (rw [if_neg c_63]))
          · refine a_iconst (pc := 66) (v := nI 0) dX12_product_66 (by decide) ?_
            refine a_goto (pc := 67) (tgt := 85) dX12_product_67 (by decide) ?_
            refine a_istoren_1 (pc := 85) dX12_product_85 (by decide) (by first | rfl | trivial) ?_
            refine a_aloadn_0 (pc := 86) dX12_product_86 ?_
            refine cv_X12_150 (pc := 87) rfl dX12_product_87 hm_h3.2.2.1 (Nat.le_of_ble_eq_true rfl) ?_
            refine m_byteAt (by omega) hz hb (by omega) hm_h3 ?_
            refine a_istoren_2 (pc := 90) dX12_product_90 (by decide) (by first | rfl | trivial) ?_
            refine a_goto (pc := 91) (tgt := 10) dX12_product_91 (by decide) ?_
            refine a_ls (ls' := [some _, some _, some _, none, none]) ⟨rfl, rfl, rfl, trivial⟩ ?_
            exact ih _ q2 _ _ (by omega) hq_h3 H hm_h3 (by show _ = joinV (c q) (e _) (e2 _); rw [hcq, ← hv, ← hv_h3]; show _ = (if w = 0 then 0 else v / w); first | (rw [if_pos c_63]; rfl) | (rw [if_neg c_63]))
        · refine a_aloadn_0 (pc := 10) dX12_product_10 ?_
          refine mg_147 (x := (-1)) hm1 rfl dX12_product_11 rfl ?_
          refine a_if_ge (pc := 14) (tgt := 94) dX12_product_14 (by decide) (fun c_14 => absurd c_14 (by decide)) (fun c_14 => ?_)
          refine a_iloadn_2 (pc := 17) dX12_product_17 ?_
          refine a_bipush (pc := 18) (v := nI 42) dX12_product_18 (by decide) ?_
          refine n_icmp_eq (tgt := 35) dX12_product_20 (by decide) (by omega) (by decide) (fun c_20 => by omega) (fun c_20 => ?_)
          refine a_iloadn_2 (pc := 23) dX12_product_23 ?_
          refine a_bipush (pc := 24) (v := nI 47) dX12_product_24 (by decide) ?_
          refine n_icmp_eq (tgt := 35) dX12_product_26 (by decide) (by omega) (by decide) (fun c_26 => by omega) (fun c_26 => ?_)
          refine a_iloadn_2 (pc := 29) dX12_product_29 ?_
          refine a_bipush (pc := 30) (v := nI 37) dX12_product_30 (by decide) ?_
          refine n_icmp_ne (tgt := 94) dX12_product_32 (by decide) (by omega) (by decide) (fun c_32 => by omega) (fun c_32 => ?_)
          refine a_aloadn_0 (pc := 35) dX12_product_35 ?_
          refine a_dup (pc := 36) dX12_product_36 rfl ?_
          refine mg_138 (x := q) hm1 rfl dX12_product_37 rfl ?_
          refine a_iconst (pc := 40) (v := nI 1) dX12_product_40 (by decide) ?_
          refine n_iadd dX12_product_41 ?_
          refine mp_138 (x := q + 1) hm1 rfl dX12_product_42 (fun h21 hm21 => ?_)
          refine a_aloadn_0 (pc := 45) dX12_product_45 ?_
          refine cv_X12_169 (pc := 46) rfl dX12_product_46 hm21.2.2.1 (Nat.le_of_ble_eq_true rfl) ?_
          refine I5 j (by omega) d _ (q + 1) op e _ _ (by omega) (by omega) (by omega) hr1 hm21 (fun h3 w H9 => ?_)
          obtain ⟨hm_h3, hv_h3⟩ := H9
          have hb_h3 := ps_pb c n hc0 _ _ _ _ _ _ hr1 (by omega) (by omega)
          have hq_h3 := hb_h3.1
          have hl_h3 := hb_h3.2.1
          refine a_istoren_3 (pc := 49) dX12_product_49 (by decide) (by first | rfl | trivial) ?_
          refine a_iloadn_2 (pc := 50) dX12_product_50 ?_
          refine a_bipush (pc := 51) (v := nI 42) dX12_product_51 (by decide) ?_
          refine n_icmp_ne (tgt := 62) dX12_product_53 (by decide) (by omega) (by decide) (fun c_53 => ?_) (fun c_53 => by omega)
          refine a_iloadn_3 (pc := 62) dX12_product_62 ?_
          refine a_if_ne (pc := 63) (tgt := 70) dX12_product_63 (by decide) (fun c_63 => ?_) (fun c_63 => ?_)
          · refine a_iloadn_2 (pc := 70) dX12_product_70 ?_
            refine a_bipush (pc := 71) (v := nI 47) dX12_product_71 (by decide) ?_
            refine n_icmp_ne (tgt := 82) dX12_product_73 (by decide) (by omega) (by decide) (fun c_73 => ?_) (fun c_73 => by omega)
            refine a_iloadn_1 (pc := 82) dX12_product_82 ?_
            refine a_iloadn_3 (pc := 83) dX12_product_83 ?_
            refine a_irem (pc := 84) dX12_product_84 c_63 ?_
            refine a_istoren_1 (pc := 85) dX12_product_85 (by decide) (by first | rfl | trivial) ?_
            refine a_aloadn_0 (pc := 86) dX12_product_86 ?_
            refine cv_X12_150 (pc := 87) rfl dX12_product_87 hm_h3.2.2.1 (Nat.le_of_ble_eq_true rfl) ?_
            refine m_byteAt (by omega) hz hb (by omega) hm_h3 ?_
            refine a_istoren_2 (pc := 90) dX12_product_90 (by decide) (by first | rfl | trivial) ?_
            refine a_goto (pc := 91) (tgt := 10) dX12_product_91 (by decide) ?_
            refine a_ls (ls' := [some _, some _, some _, none, none]) ⟨rfl, rfl, rfl, trivial⟩ ?_
            exact ih _ q2 _ _ (by omega) hq_h3 H hm_h3 (by show _ = joinV (c q) (e _) (e2 _); rw [hcq, ← hv, ← hv_h3]; show _ = (if w = 0 then 0 else v - v / w * w); first | (rw [if_pos c_63]; rfl) | (rw [if_neg c_63]))
          · refine a_iconst (pc := 66) (v := nI 0) dX12_product_66 (by decide) ?_
            refine a_goto (pc := 67) (tgt := 85) dX12_product_67 (by decide) ?_
            refine a_istoren_1 (pc := 85) dX12_product_85 (by decide) (by first | rfl | trivial) ?_
            refine a_aloadn_0 (pc := 86) dX12_product_86 ?_
            refine cv_X12_150 (pc := 87) rfl dX12_product_87 hm_h3.2.2.1 (Nat.le_of_ble_eq_true rfl) ?_
            refine m_byteAt (by omega) hz hb (by omega) hm_h3 ?_
            refine a_istoren_2 (pc := 90) dX12_product_90 (by decide) (by first | rfl | trivial) ?_
            refine a_goto (pc := 91) (tgt := 10) dX12_product_91 (by decide) ?_
            refine a_ls (ls' := [some _, some _, some _, none, none]) ⟨rfl, rfl, rfl, trivial⟩ ?_
            exact ih _ q2 _ _ (by omega) hq_h3 H hm_h3 (by show _ = joinV (c q) (e _) (e2 _); rw [hcq, ← hv, ← hv_h3]; show _ = (if w = 0 then 0 else v - v / w * w); first | (rw [if_pos c_63]; rfl) | (rw [if_neg c_63]))
  rcases ps_lv (by decide) H with ⟨f, hr1, rfl⟩ | ⟨q, e, hr1, H⟩
  · refine a_aloadn_0 (pc := 0) dX12_product_0 ?_
    refine cv_X12_169 (pc := 1) rfl dX12_product_1 hm.2.2.1 (Nat.le_of_ble_eq_true rfl) ?_
    refine I5 k (Nat.le_refl k) d h p op acc _ _ (by omega) (by omega) (by omega) hr1 hm (fun h1 v H9 => ?_)
    obtain ⟨at1, op1, ho1, ha1, hm_h1⟩ := H9
    have hf1 := (ps_pb c n hc0 _ _ _ _ _ _ hr1 (by omega) (by omega)).1
    refine a_istoren_1 (pc := 4) dX12_product_4 (by decide) (by first | rfl | trivial) ?_
    refine a_aloadn_0 (pc := 5) dX12_product_5 ?_
    refine cv_X12_150 (pc := 6) rfl dX12_product_6 hm_h1.2.2.1 (Nat.le_of_ble_eq_true rfl) ?_
    refine m_byteAt (by omega) hz hb (by omega) hm_h1 ?_
    refine a_istoren_2 (pc := 9) dX12_product_9 (by decide) (by first | rfl | trivial) ?_
    exact fx _ f at1 op1 _ _ hf1 ha1 ho1 rfl hm_h1
  · refine a_aloadn_0 (pc := 0) dX12_product_0 ?_
    refine cv_X12_169 (pc := 1) rfl dX12_product_1 hm.2.2.1 (Nat.le_of_ble_eq_true rfl) ?_
    refine I5 k (Nat.le_refl k) d h p op acc _ _ (by omega) (by omega) (by omega) hr1 hm (fun h1 v H9 => ?_)
    obtain ⟨hm_h1, hv_h1⟩ := H9
    have hb_h1 := ps_pb c n hc0 _ _ _ _ _ _ hr1 (by omega) (by omega)
    have hq_h1 := hb_h1.1
    have hl_h1 := hb_h1.2.1
    refine a_istoren_1 (pc := 4) dX12_product_4 (by decide) (by first | rfl | trivial) ?_
    refine a_aloadn_0 (pc := 5) dX12_product_5 ?_
    refine cv_X12_150 (pc := 6) rfl dX12_product_6 hm_h1.2.2.1 (Nat.le_of_ble_eq_true rfl) ?_
    refine m_byteAt (by omega) hz hb (by omega) hm_h1 ?_
    refine a_istoren_2 (pc := 9) dX12_product_9 (by decide) (by first | rfl | trivial) ?_
    exact lp k _ q e _ (Nat.le_refl k) hq_h1 H hm_h1 hv_h1
set_option maxRecDepth 100000 in
set_option maxHeartbeats 4000000 in
theorem mg5_s {G : Cx} {h0 : List va_E} {b : MB} {t : MT} {o : MO} {bs : Int32} {n : Nat} {nms c : Nat → Nat} {k : Nat} (hz : gz G = false) (hb : BYT b bs n c) (I0 : ∀ j, j ≤ k → Mg0 G h0 b t o bs n nms c j) (I5 : ∀ j, j ≤ k → Mg5 G h0 b t o bs n nms c j) : Mg5 G h0 b t o bs n nms c (k + 1) := by
  intro d h p op acc Q r hd hop hp H hm kk
  obtain ⟨d, rfl, he⟩ := dpos (k := 6 * (6 - op) + 3) (by omega)
  refine AM.of [some (.ref (gB G + 80)), none, none, none, none] pnX12 (Nat.le_of_ble_eq_true rfl) (by simp [lsub, lvI, Value.category]) ?_
  obtain ⟨hn, hc0, h255, -⟩ := id hb
  have hcp := h255 p
  rcases ps_op H with ⟨hdg, rfl⟩ | ⟨j, hj, rfl⟩ | ⟨ho6, hcq, ⟨f, hr1, rfl⟩ | ⟨q, e, hr1, ⟨h41, rfl⟩ | ⟨h41, rfl⟩⟩⟩ | ⟨ho6, hcs, ⟨f, hr1, rfl⟩ | ⟨q, e, hr1, rfl⟩⟩ | ⟨hdg, hno, hbr, rfl⟩
  · have hdg2 := dgO_iff.mp hdg
    have hno : nmO (c p) = none := nmO_no (by omega)
    have lp : ∀ (m i : Nat) (h1 : List va_E) (v : Nat), 4 - i < m → i ≤ 4 → nums c (4 - i) (p + i) v = nums c 4 p 0 → MS G h0 h1 (b, (bs, (p + i), n, (-1), op, nms), t, o) → AW G yX12_one cX12_one 5 (some .int) (rmx (d + 1) 0 0) (ZQ G 0 0 (h.length + 0) Q) 0 0 176 [some (.ref (gB G + 80)), some (.int (nI (c p))), some (.int (oI none)), some (.int (nI (v))), some (.int (nI (i)))] [] h1 := by
      intro m
      induction m with
      | zero => intro i h1 v q; exact absurd q (Nat.not_lt_zero _)
      | succ m ih =>
        intro i h1 v hm9 hi4 hN hm1
        have hz9 : i = 0 → c (p + i) = c p := fun q => by rw [q]; rfl
        refine a_iload_4 (pc := 176) dX12_one_176 ?_
        refine a_iconst (pc := 178) (v := nI 4) dX12_one_178 (by decide) ?_
        refine n_icmp_ge (tgt := 229) dX12_one_179 (by decide) (by omega) (by decide) (fun c_179 => ?_) (fun c_179 => ?_)
        · have hx9 : nums c 4 p 0 = (p + i, v) := by rw [← hN, show 4 - i = 0 by omega, nums]
          refine a_iload_4 (pc := 229) dX12_one_229 ?_
          refine n_if_ne (tgt := 241) dX12_one_231 (by decide) (by omega) (fun c_231 => ?_) (fun c_231 => by have := hz9 c_231; omega)
          refine a_iloadn_3 (pc := 241) dX12_one_241 ?_
          exact a_iret (pc := 242) dX12_one_242 rfl (zf hz) (kk _ _ ⟨by rw [hx9]; exact hm1, by rw [hx9]⟩)
        · refine a_aloadn_0 (pc := 182) dX12_one_182 ?_
          refine cv_X12_150 (pc := 183) rfl dX12_one_183 hm1.2.2.1 (Nat.le_of_ble_eq_true rfl) ?_
          refine m_byteAt (by omega) hz hb (by omega) hm1 ?_
          have hcp2 := h255 (p + i)
          refine a_bipush (pc := 186) (v := nI 48) dX12_one_186 (by decide) ?_
          refine n_icmp_lt (tgt := 229) dX12_one_188 (by decide) (by omega) (by decide) (fun c_188 => ?_) (fun c_188 => ?_)
          · have hx9 : nums c 4 p 0 = (p + i, v) := by rw [← hN, show 4 - i = (4 - (i + 1)) + 1 by omega, nums, if_neg (fun z => by have := dgO_iff.mp z; omega)]
            refine a_iload_4 (pc := 229) dX12_one_229 ?_
            refine n_if_ne (tgt := 241) dX12_one_231 (by decide) (by omega) (fun c_231 => ?_) (fun c_231 => by have := hz9 c_231; omega)
            refine a_iloadn_3 (pc := 241) dX12_one_241 ?_
            exact a_iret (pc := 242) dX12_one_242 rfl (zf hz) (kk _ _ ⟨by rw [hx9]; exact hm1, by rw [hx9]⟩)
          · refine a_aloadn_0 (pc := 191) dX12_one_191 ?_
            refine cv_X12_150 (pc := 192) rfl dX12_one_192 hm1.2.2.1 (Nat.le_of_ble_eq_true rfl) ?_
            refine m_byteAt (by omega) hz hb (by omega) hm1 ?_
            refine a_bipush (pc := 195) (v := nI 57) dX12_one_195 (by decide) ?_
            refine n_icmp_gt (tgt := 229) dX12_one_197 (by decide) (by omega) (by decide) (fun c_197 => ?_) (fun c_197 => ?_)
            · have hx9 : nums c 4 p 0 = (p + i, v) := by rw [← hN, show 4 - i = (4 - (i + 1)) + 1 by omega, nums, if_neg (fun z => by have := dgO_iff.mp z; omega)]
              refine a_iload_4 (pc := 229) dX12_one_229 ?_
              refine n_if_ne (tgt := 241) dX12_one_231 (by decide) (by omega) (fun c_231 => ?_) (fun c_231 => by have := hz9 c_231; omega)
              refine a_iloadn_3 (pc := 241) dX12_one_241 ?_
              exact a_iret (pc := 242) dX12_one_242 rfl (zf hz) (kk _ _ ⟨by rw [hx9]; exact hm1, by rw [hx9]⟩)
            · refine a_bipush (pc := 200) (v := nI 10) dX12_one_200 (by decide) ?_
              refine a_iloadn_3 (pc := 202) dX12_one_202 ?_
              refine n_imul dX12_one_203 ?_
              refine a_aloadn_0 (pc := 204) dX12_one_204 ?_
              refine cv_X12_150 (pc := 205) rfl dX12_one_205 hm1.2.2.1 (Nat.le_of_ble_eq_true rfl) ?_
              refine m_byteAt (by omega) hz hb (by omega) hm1 ?_
              refine n_iadd dX12_one_208 ?_
              refine a_bipush (pc := 209) (v := nI 48) dX12_one_209 (by decide) ?_
              refine n_isub dX12_one_211 (by omega) ?_
              refine a_topi (nI (v * 10 + (c (p + i) - 48))) (by congr 1; omega) ?_
              refine a_istoren_3 (pc := 212) dX12_one_212 (by decide) (by first | rfl | trivial) ?_
              refine a_iinc_4 (pc := 213) (v := nI (i + 1)) dX12_one_213 (nI_add _ _) (by decide) (by first | rfl | trivial) ?_
              refine a_aloadn_0 (pc := 216) dX12_one_216 ?_
              refine a_dup (pc := 217) dX12_one_217 rfl ?_
              refine mg_138 (x := (p + i)) hm1 rfl dX12_one_218 rfl ?_
              refine a_iconst (pc := 221) (v := nI 1) dX12_one_221 (by decide) ?_
              refine n_iadd dX12_one_222 ?_
              refine mp_138 (x := (p + i) + 1) hm1 rfl dX12_one_223 (fun h21 hm21 => ?_)
              refine a_goto (pc := 226) (tgt := 176) dX12_one_226 (by decide) ?_
              exact ih (i + 1) _ _ (by omega) (by omega) (by rw [← hN, show 4 - i = (4 - (i + 1)) + 1 by omega, nums, if_pos (dgO_iff.mpr ⟨c_188, c_197⟩)]; rfl) hm21
    refine a_aloadn_0 (pc := 0) dX12_one_0 ?_
    refine mg_147 (x := (-1)) hm rfl dX12_one_1 rfl ?_
    refine a_if_lt (pc := 4) (tgt := 9) dX12_one_4 (by decide) (fun c_4 => ?_) (fun c_4 => absurd c_4 (by decide))
    refine a_aloadn_0 (pc := 9) dX12_one_9 ?_
    refine cv_X12_150 (pc := 10) rfl dX12_one_10 hm.2.2.1 (Nat.le_of_ble_eq_true rfl) ?_
    refine m_byteAt (by omega) hz hb (by omega) hm ?_
    refine a_istoren_1 (pc := 13) dX12_one_13 (by decide) (by first | rfl | trivial) ?_
    refine a_iloadn_1 (pc := 14) dX12_one_14 ?_
    refine a_bipush (pc := 15) (v := nI 33) dX12_one_15 (by decide) ?_
    refine n_icmp_eq (tgt := 32) dX12_one_17 (by decide) (by omega) (by decide) (fun c_17 => by omega) (fun c_17 => ?_)
    refine a_iloadn_1 (pc := 20) dX12_one_20 ?_
    refine a_bipush (pc := 21) (v := nI 45) dX12_one_21 (by decide) ?_
    refine n_icmp_eq (tgt := 32) dX12_one_23 (by decide) (by omega) (by decide) (fun c_23 => by omega) (fun c_23 => ?_)
    refine a_iloadn_1 (pc := 26) dX12_one_26 ?_
    refine a_bipush (pc := 27) (v := nI 40) dX12_one_27 (by decide) ?_
    refine n_icmp_ne (tgt := 145) dX12_one_29 (by decide) (by omega) (by decide) (fun c_29 => ?_) (fun c_29 => by omega)
    refine a_iloadn_1 (pc := 145) dX12_one_145 ?_
    refine cs_X12_181 (pc := 146) rfl dX12_one_146 (Nat.le_of_ble_eq_true rfl) ?_
    refine m_nameOf (by omega) hz (by omega) ?_
    rw [hno]
    refine a_istoren_2 (pc := 149) dX12_one_149 (by decide) (by first | rfl | trivial) ?_
    refine a_iloadn_2 (pc := 150) dX12_one_150 ?_
    refine a_if_lt (pc := 151) (tgt := 171) dX12_one_151 (by decide) (fun c_151 => ?_) (fun c_151 => absurd (show oI none < 0 by decide) c_151)
    refine a_iconst (pc := 171) (v := nI 0) dX12_one_171 (by decide) ?_
    refine a_istoren_3 (pc := 172) dX12_one_172 (by decide) (by first | rfl | trivial) ?_
    refine a_iconst (pc := 173) (v := nI 0) dX12_one_173 (by decide) ?_
    refine a_istore_4 (pc := 174) dX12_one_174 (by decide) (by first | rfl | trivial) ?_
    exact lp 5 0 _ 0 (by omega) (by omega) rfl hm
  · obtain ⟨hj6, hj1, hj2⟩ := nmO_ch hj
    refine a_aloadn_0 (pc := 0) dX12_one_0 ?_
    refine mg_147 (x := (-1)) hm rfl dX12_one_1 rfl ?_
    refine a_if_lt (pc := 4) (tgt := 9) dX12_one_4 (by decide) (fun c_4 => ?_) (fun c_4 => absurd c_4 (by decide))
    refine a_aloadn_0 (pc := 9) dX12_one_9 ?_
    refine cv_X12_150 (pc := 10) rfl dX12_one_10 hm.2.2.1 (Nat.le_of_ble_eq_true rfl) ?_
    refine m_byteAt (by omega) hz hb (by omega) hm ?_
    refine a_istoren_1 (pc := 13) dX12_one_13 (by decide) (by first | rfl | trivial) ?_
    refine a_iloadn_1 (pc := 14) dX12_one_14 ?_
    refine a_bipush (pc := 15) (v := nI 33) dX12_one_15 (by decide) ?_
    refine n_icmp_eq (tgt := 32) dX12_one_17 (by decide) (by omega) (by decide) (fun c_17 => by omega) (fun c_17 => ?_)
    refine a_iloadn_1 (pc := 20) dX12_one_20 ?_
    refine a_bipush (pc := 21) (v := nI 45) dX12_one_21 (by decide) ?_
    refine n_icmp_eq (tgt := 32) dX12_one_23 (by decide) (by omega) (by decide) (fun c_23 => by omega) (fun c_23 => ?_)
    refine a_iloadn_1 (pc := 26) dX12_one_26 ?_
    refine a_bipush (pc := 27) (v := nI 40) dX12_one_27 (by decide) ?_
    refine n_icmp_ne (tgt := 145) dX12_one_29 (by decide) (by omega) (by decide) (fun c_29 => ?_) (fun c_29 => by omega)
    refine a_iloadn_1 (pc := 145) dX12_one_145 ?_
    refine cs_X12_181 (pc := 146) rfl dX12_one_146 (Nat.le_of_ble_eq_true rfl) ?_
    refine m_nameOf (by omega) hz (by omega) ?_
    rw [hj]
    refine a_topi (nI j) rfl ?_
    refine a_istoren_2 (pc := 149) dX12_one_149 (by decide) (by first | rfl | trivial) ?_
    refine a_iloadn_2 (pc := 150) dX12_one_150 ?_
    refine n_if_lt (tgt := 171) dX12_one_151 (by decide) (by omega) ?_
    refine a_aloadn_0 (pc := 154) dX12_one_154 ?_
    refine a_dup (pc := 155) dX12_one_155 rfl ?_
    refine mg_138 (x := p) hm rfl dX12_one_156 rfl ?_
    refine a_iconst (pc := 159) (v := nI 1) dX12_one_159 (by decide) ?_
    refine n_iadd dX12_one_160 ?_
    refine mp_138 (x := p + 1) hm rfl dX12_one_161 (fun h21 hm21 => ?_)
    refine a_aloadn_0 (pc := 164) dX12_one_164 ?_
    refine mg_28 hm21 rfl dX12_one_165 ?_
    refine a_iloadn_2 (pc := 168) dX12_one_168 ?_
    refine ml_names (x := nms j) hm21 dX12_one_169 (by omega) rfl ?_
    exact a_iret (pc := 170) dX12_one_170 rfl (zf hz) (kk _ _ ⟨hm21, rfl⟩)
  · have hpn := ch_lt hc0 (show 0 < c p by omega)
    refine a_aloadn_0 (pc := 0) dX12_one_0 ?_
    refine mg_147 (x := (-1)) hm rfl dX12_one_1 rfl ?_
    refine a_if_lt (pc := 4) (tgt := 9) dX12_one_4 (by decide) (fun c_4 => ?_) (fun c_4 => absurd c_4 (by decide))
    refine a_aloadn_0 (pc := 9) dX12_one_9 ?_
    refine cv_X12_150 (pc := 10) rfl dX12_one_10 hm.2.2.1 (Nat.le_of_ble_eq_true rfl) ?_
    refine m_byteAt (by omega) hz hb (by omega) hm ?_
    refine a_istoren_1 (pc := 13) dX12_one_13 (by decide) (by first | rfl | trivial) ?_
    refine a_iloadn_1 (pc := 14) dX12_one_14 ?_
    refine a_bipush (pc := 15) (v := nI 33) dX12_one_15 (by decide) ?_
    refine n_icmp_eq (tgt := 32) dX12_one_17 (by decide) (by omega) (by decide) (fun c_17 => by omega) (fun c_17 => ?_)
    refine a_iloadn_1 (pc := 20) dX12_one_20 ?_
    refine a_bipush (pc := 21) (v := nI 45) dX12_one_21 (by decide) ?_
    refine n_icmp_eq (tgt := 32) dX12_one_23 (by decide) (by omega) (by decide) (fun c_23 => by omega) (fun c_23 => ?_)
    refine a_iloadn_1 (pc := 26) dX12_one_26 ?_
    refine a_bipush (pc := 27) (v := nI 40) dX12_one_27 (by decide) ?_
    refine n_icmp_ne (tgt := 145) dX12_one_29 (by decide) (by omega) (by decide) (fun c_29 => by omega) (fun c_29 => ?_)
    refine a_aloadn_0 (pc := 32) dX12_one_32 ?_
    refine mg_172 (x := op) hm rfl dX12_one_33 rfl ?_
    refine a_bipush (pc := 36) (v := nI 6) dX12_one_36 (by decide) ?_
    refine n_icmp_ne (tgt := 46) dX12_one_38 (by decide) (by omega) (by decide) (fun c_38 => ?_) (fun c_38 => by omega)
    refine a_aloadn_0 (pc := 46) dX12_one_46 ?_
    refine a_dup (pc := 47) dX12_one_47 rfl ?_
    refine mg_172 (x := op) hm rfl dX12_one_48 rfl ?_
    refine a_iconst (pc := 51) (v := nI 1) dX12_one_51 (by decide) ?_
    refine n_iadd dX12_one_52 ?_
    refine mp_172 (x := op + 1) hm rfl dX12_one_53 (fun h21 hm21 => ?_)
    refine a_aloadn_0 (pc := 56) dX12_one_56 ?_
    refine a_dup (pc := 57) dX12_one_57 rfl ?_
    refine mg_138 (x := p) hm21 rfl dX12_one_58 rfl ?_
    refine a_iconst (pc := 61) (v := nI 1) dX12_one_61 (by decide) ?_
    refine n_iadd dX12_one_62 ?_
    refine mp_138 (x := p + 1) hm21 rfl dX12_one_63 (fun h22 hm22 => ?_)
    refine a_iloadn_1 (pc := 66) dX12_one_66 ?_
    refine a_bipush (pc := 67) (v := nI 40) dX12_one_67 (by decide) ?_
    refine n_icmp_ne (tgt := 79) dX12_one_69 (by decide) (by omega) (by decide) (fun c_69 => by omega) (fun c_69 => ?_)
    refine a_aloadn_0 (pc := 72) dX12_one_72 ?_
    refine cv_X12_178 (pc := 73) rfl dX12_one_73 hm22.2.2.1 (Nat.le_of_ble_eq_true rfl) ?_
    refine I0 k (Nat.le_refl k) d _ (p + 1) (op + 1) acc _ _ (by omega) (by omega) (by omega) hr1 hm22 (fun h1 v H9 => ?_)
    obtain ⟨at1, op1, ho1, ha1, hm_h1⟩ := H9
    have hf1 := (ps_pb c n hc0 _ _ _ _ _ _ hr1 (by omega) (by omega)).1
    refine a_goto (pc := 76) (tgt := 83) dX12_one_76 (by decide) ?_
    refine a_istoren_2 (pc := 83) dX12_one_83 (by decide) (by first | rfl | trivial) ?_
    refine a_iloadn_1 (pc := 84) dX12_one_84 ?_
    refine a_bipush (pc := 85) (v := nI 40) dX12_one_85 (by decide) ?_
    refine n_icmp_ne (tgt := 104) dX12_one_87 (by decide) (by omega) (by decide) (fun c_87 => by omega) (fun c_87 => ?_)
    refine a_aloadn_0 (pc := 90) dX12_one_90 ?_
    refine a_bipush (pc := 91) (v := nI 41) dX12_one_91 (by decide) ?_
    refine cv_X12_157 (pc := 93) rfl dX12_one_93 hm_h1.2.2.1 (Nat.le_of_ble_eq_true rfl) ?_
    refine m_takesG (by omega) hz hb (by omega) hm_h1 (g := f) (by omega) ?_
    refine b_if_ne (pc := 96) (tgt := 104) dX12_one_96 (by decide) (fun c_96 => by cases c_96) (fun c_96 => ?_)
    refine a_aloadn_0 (pc := 99) dX12_one_99 ?_
    refine cv_X12_175 (pc := 100) rfl dX12_one_100 hm_h1.2.2.1 (Nat.le_of_ble_eq_true rfl) ?_
    refine m_wrongG (by omega) hz hb (by omega) hm_h1 (g := f) (by omega) (fun h7 hm7 => ?_)
    exact a_iret (pc := 103) dX12_one_103 rfl (zf hz) (kk _ _ ⟨at1, op1, by omega, ha1, hm7⟩)
  · have hpn := ch_lt hc0 (show 0 < c p by omega)
    refine a_aloadn_0 (pc := 0) dX12_one_0 ?_
    refine mg_147 (x := (-1)) hm rfl dX12_one_1 rfl ?_
    refine a_if_lt (pc := 4) (tgt := 9) dX12_one_4 (by decide) (fun c_4 => ?_) (fun c_4 => absurd c_4 (by decide))
    refine a_aloadn_0 (pc := 9) dX12_one_9 ?_
    refine cv_X12_150 (pc := 10) rfl dX12_one_10 hm.2.2.1 (Nat.le_of_ble_eq_true rfl) ?_
    refine m_byteAt (by omega) hz hb (by omega) hm ?_
    refine a_istoren_1 (pc := 13) dX12_one_13 (by decide) (by first | rfl | trivial) ?_
    refine a_iloadn_1 (pc := 14) dX12_one_14 ?_
    refine a_bipush (pc := 15) (v := nI 33) dX12_one_15 (by decide) ?_
    refine n_icmp_eq (tgt := 32) dX12_one_17 (by decide) (by omega) (by decide) (fun c_17 => by omega) (fun c_17 => ?_)
    refine a_iloadn_1 (pc := 20) dX12_one_20 ?_
    refine a_bipush (pc := 21) (v := nI 45) dX12_one_21 (by decide) ?_
    refine n_icmp_eq (tgt := 32) dX12_one_23 (by decide) (by omega) (by decide) (fun c_23 => by omega) (fun c_23 => ?_)
    refine a_iloadn_1 (pc := 26) dX12_one_26 ?_
    refine a_bipush (pc := 27) (v := nI 40) dX12_one_27 (by decide) ?_
    refine n_icmp_ne (tgt := 145) dX12_one_29 (by decide) (by omega) (by decide) (fun c_29 => by omega) (fun c_29 => ?_)
    refine a_aloadn_0 (pc := 32) dX12_one_32 ?_
    refine mg_172 (x := op) hm rfl dX12_one_33 rfl ?_
    refine a_bipush (pc := 36) (v := nI 6) dX12_one_36 (by decide) ?_
    refine n_icmp_ne (tgt := 46) dX12_one_38 (by decide) (by omega) (by decide) (fun c_38 => ?_) (fun c_38 => by omega)
    refine a_aloadn_0 (pc := 46) dX12_one_46 ?_
    refine a_dup (pc := 47) dX12_one_47 rfl ?_
    refine mg_172 (x := op) hm rfl dX12_one_48 rfl ?_
    refine a_iconst (pc := 51) (v := nI 1) dX12_one_51 (by decide) ?_
    refine n_iadd dX12_one_52 ?_
    refine mp_172 (x := op + 1) hm rfl dX12_one_53 (fun h21 hm21 => ?_)
    refine a_aloadn_0 (pc := 56) dX12_one_56 ?_
    refine a_dup (pc := 57) dX12_one_57 rfl ?_
    refine mg_138 (x := p) hm21 rfl dX12_one_58 rfl ?_
    refine a_iconst (pc := 61) (v := nI 1) dX12_one_61 (by decide) ?_
    refine n_iadd dX12_one_62 ?_
    refine mp_138 (x := p + 1) hm21 rfl dX12_one_63 (fun h22 hm22 => ?_)
    refine a_iloadn_1 (pc := 66) dX12_one_66 ?_
    refine a_bipush (pc := 67) (v := nI 40) dX12_one_67 (by decide) ?_
    refine n_icmp_ne (tgt := 79) dX12_one_69 (by decide) (by omega) (by decide) (fun c_69 => by omega) (fun c_69 => ?_)
    refine a_aloadn_0 (pc := 72) dX12_one_72 ?_
    refine cv_X12_178 (pc := 73) rfl dX12_one_73 hm22.2.2.1 (Nat.le_of_ble_eq_true rfl) ?_
    refine I0 k (Nat.le_refl k) d _ (p + 1) (op + 1) acc _ _ (by omega) (by omega) (by omega) hr1 hm22 (fun h1 v H9 => ?_)
    obtain ⟨hm_h1, hv_h1⟩ := H9
    have hb_h1 := ps_pb c n hc0 _ _ _ _ _ _ hr1 (by omega) (by omega)
    have hq_h1 := hb_h1.1
    have hl_h1 := hb_h1.2.1
    refine a_goto (pc := 76) (tgt := 83) dX12_one_76 (by decide) ?_
    refine a_istoren_2 (pc := 83) dX12_one_83 (by decide) (by first | rfl | trivial) ?_
    refine a_iloadn_1 (pc := 84) dX12_one_84 ?_
    refine a_bipush (pc := 85) (v := nI 40) dX12_one_85 (by decide) ?_
    refine n_icmp_ne (tgt := 104) dX12_one_87 (by decide) (by omega) (by decide) (fun c_87 => by omega) (fun c_87 => ?_)
    refine a_aloadn_0 (pc := 90) dX12_one_90 ?_
    refine a_bipush (pc := 91) (v := nI 41) dX12_one_91 (by decide) ?_
    refine cv_X12_157 (pc := 93) rfl dX12_one_93 hm_h1.2.2.1 (Nat.le_of_ble_eq_true rfl) ?_
    refine m_takes (by omega) hz hb (by omega) hm_h1 (by decide) (fun hx h6 hm6 => ?_) (fun hx => absurd h41 hx)
    refine b_if_ne (pc := 96) (tgt := 104) dX12_one_96 (by decide) (fun c_96 => ?_) (fun c_96 => by cases c_96)
    refine a_aloadn_0 (pc := 104) dX12_one_104 ?_
    refine a_dup (pc := 105) dX12_one_105 rfl ?_
    refine mg_172 (x := (op + 1)) hm6 rfl dX12_one_106 rfl ?_
    refine a_iconst (pc := 109) (v := nI 1) dX12_one_109 (by decide) ?_
    refine n_isub dX12_one_110 (by omega) ?_
    refine a_topi (nI (op)) (congrArg nI (by omega)) ?_
    refine mp_172 (x := op) hm6 rfl dX12_one_111 (fun h23 hm23 => ?_)
    refine a_iloadn_1 (pc := 114) dX12_one_114 ?_
    refine a_bipush (pc := 115) (v := nI 40) dX12_one_115 (by decide) ?_
    refine n_icmp_ne (tgt := 124) dX12_one_117 (by decide) (by omega) (by decide) (fun c_117 => by omega) (fun c_117 => ?_)
    refine a_iloadn_2 (pc := 120) dX12_one_120 ?_
    refine a_goto (pc := 121) (tgt := 144) dX12_one_121 (by decide) ?_
    exact a_iret (pc := 144) dX12_one_144 rfl (zf hz) (kk _ _ ⟨hm23, hv_h1⟩)
  · have hpn := ch_lt hc0 (show 0 < c p by omega)
    refine a_aloadn_0 (pc := 0) dX12_one_0 ?_
    refine mg_147 (x := (-1)) hm rfl dX12_one_1 rfl ?_
    refine a_if_lt (pc := 4) (tgt := 9) dX12_one_4 (by decide) (fun c_4 => ?_) (fun c_4 => absurd c_4 (by decide))
    refine a_aloadn_0 (pc := 9) dX12_one_9 ?_
    refine cv_X12_150 (pc := 10) rfl dX12_one_10 hm.2.2.1 (Nat.le_of_ble_eq_true rfl) ?_
    refine m_byteAt (by omega) hz hb (by omega) hm ?_
    refine a_istoren_1 (pc := 13) dX12_one_13 (by decide) (by first | rfl | trivial) ?_
    refine a_iloadn_1 (pc := 14) dX12_one_14 ?_
    refine a_bipush (pc := 15) (v := nI 33) dX12_one_15 (by decide) ?_
    refine n_icmp_eq (tgt := 32) dX12_one_17 (by decide) (by omega) (by decide) (fun c_17 => by omega) (fun c_17 => ?_)
    refine a_iloadn_1 (pc := 20) dX12_one_20 ?_
    refine a_bipush (pc := 21) (v := nI 45) dX12_one_21 (by decide) ?_
    refine n_icmp_eq (tgt := 32) dX12_one_23 (by decide) (by omega) (by decide) (fun c_23 => by omega) (fun c_23 => ?_)
    refine a_iloadn_1 (pc := 26) dX12_one_26 ?_
    refine a_bipush (pc := 27) (v := nI 40) dX12_one_27 (by decide) ?_
    refine n_icmp_ne (tgt := 145) dX12_one_29 (by decide) (by omega) (by decide) (fun c_29 => by omega) (fun c_29 => ?_)
    refine a_aloadn_0 (pc := 32) dX12_one_32 ?_
    refine mg_172 (x := op) hm rfl dX12_one_33 rfl ?_
    refine a_bipush (pc := 36) (v := nI 6) dX12_one_36 (by decide) ?_
    refine n_icmp_ne (tgt := 46) dX12_one_38 (by decide) (by omega) (by decide) (fun c_38 => ?_) (fun c_38 => by omega)
    refine a_aloadn_0 (pc := 46) dX12_one_46 ?_
    refine a_dup (pc := 47) dX12_one_47 rfl ?_
    refine mg_172 (x := op) hm rfl dX12_one_48 rfl ?_
    refine a_iconst (pc := 51) (v := nI 1) dX12_one_51 (by decide) ?_
    refine n_iadd dX12_one_52 ?_
    refine mp_172 (x := op + 1) hm rfl dX12_one_53 (fun h21 hm21 => ?_)
    refine a_aloadn_0 (pc := 56) dX12_one_56 ?_
    refine a_dup (pc := 57) dX12_one_57 rfl ?_
    refine mg_138 (x := p) hm21 rfl dX12_one_58 rfl ?_
    refine a_iconst (pc := 61) (v := nI 1) dX12_one_61 (by decide) ?_
    refine n_iadd dX12_one_62 ?_
    refine mp_138 (x := p + 1) hm21 rfl dX12_one_63 (fun h22 hm22 => ?_)
    refine a_iloadn_1 (pc := 66) dX12_one_66 ?_
    refine a_bipush (pc := 67) (v := nI 40) dX12_one_67 (by decide) ?_
    refine n_icmp_ne (tgt := 79) dX12_one_69 (by decide) (by omega) (by decide) (fun c_69 => by omega) (fun c_69 => ?_)
    refine a_aloadn_0 (pc := 72) dX12_one_72 ?_
    refine cv_X12_178 (pc := 73) rfl dX12_one_73 hm22.2.2.1 (Nat.le_of_ble_eq_true rfl) ?_
    refine I0 k (Nat.le_refl k) d _ (p + 1) (op + 1) acc _ _ (by omega) (by omega) (by omega) hr1 hm22 (fun h1 v H9 => ?_)
    obtain ⟨hm_h1, hv_h1⟩ := H9
    have hb_h1 := ps_pb c n hc0 _ _ _ _ _ _ hr1 (by omega) (by omega)
    have hq_h1 := hb_h1.1
    have hl_h1 := hb_h1.2.1
    refine a_goto (pc := 76) (tgt := 83) dX12_one_76 (by decide) ?_
    refine a_istoren_2 (pc := 83) dX12_one_83 (by decide) (by first | rfl | trivial) ?_
    refine a_iloadn_1 (pc := 84) dX12_one_84 ?_
    refine a_bipush (pc := 85) (v := nI 40) dX12_one_85 (by decide) ?_
    refine n_icmp_ne (tgt := 104) dX12_one_87 (by decide) (by omega) (by decide) (fun c_87 => by omega) (fun c_87 => ?_)
    refine a_aloadn_0 (pc := 90) dX12_one_90 ?_
    refine a_bipush (pc := 91) (v := nI 41) dX12_one_91 (by decide) ?_
    refine cv_X12_157 (pc := 93) rfl dX12_one_93 hm_h1.2.2.1 (Nat.le_of_ble_eq_true rfl) ?_
    refine m_takes (by omega) hz hb (by omega) hm_h1 (by decide) (fun hx => absurd hx h41) (fun hx => ?_)
    refine b_if_ne (pc := 96) (tgt := 104) dX12_one_96 (by decide) (fun c_96 => by cases c_96) (fun c_96 => ?_)
    refine a_aloadn_0 (pc := 99) dX12_one_99 ?_
    refine cv_X12_175 (pc := 100) rfl dX12_one_100 hm_h1.2.2.1 (Nat.le_of_ble_eq_true rfl) ?_
    refine m_wrong (by omega) hz hb (by omega) hm_h1 (fun h7 hm7 => ?_)
    exact a_iret (pc := 103) dX12_one_103 rfl (zf hz) (kk _ _ ⟨q, op + 1, by omega, by omega, hm7⟩)
  · have hpn := ch_lt hc0 (show 0 < c p by omega)
    rcases hcs with hcq | hcq
    · refine a_aloadn_0 (pc := 0) dX12_one_0 ?_
      refine mg_147 (x := (-1)) hm rfl dX12_one_1 rfl ?_
      refine a_if_lt (pc := 4) (tgt := 9) dX12_one_4 (by decide) (fun c_4 => ?_) (fun c_4 => absurd c_4 (by decide))
      refine a_aloadn_0 (pc := 9) dX12_one_9 ?_
      refine cv_X12_150 (pc := 10) rfl dX12_one_10 hm.2.2.1 (Nat.le_of_ble_eq_true rfl) ?_
      refine m_byteAt (by omega) hz hb (by omega) hm ?_
      refine a_istoren_1 (pc := 13) dX12_one_13 (by decide) (by first | rfl | trivial) ?_
      refine a_iloadn_1 (pc := 14) dX12_one_14 ?_
      refine a_bipush (pc := 15) (v := nI 33) dX12_one_15 (by decide) ?_
      refine n_icmp_eq (tgt := 32) dX12_one_17 (by decide) (by omega) (by decide) (fun c_17 => ?_) (fun c_17 => by omega)
      refine a_aloadn_0 (pc := 32) dX12_one_32 ?_
      refine mg_172 (x := op) hm rfl dX12_one_33 rfl ?_
      refine a_bipush (pc := 36) (v := nI 6) dX12_one_36 (by decide) ?_
      refine n_icmp_ne (tgt := 46) dX12_one_38 (by decide) (by omega) (by decide) (fun c_38 => ?_) (fun c_38 => by omega)
      refine a_aloadn_0 (pc := 46) dX12_one_46 ?_
      refine a_dup (pc := 47) dX12_one_47 rfl ?_
      refine mg_172 (x := op) hm rfl dX12_one_48 rfl ?_
      refine a_iconst (pc := 51) (v := nI 1) dX12_one_51 (by decide) ?_
      refine n_iadd dX12_one_52 ?_
      refine mp_172 (x := op + 1) hm rfl dX12_one_53 (fun h21 hm21 => ?_)
      refine a_aloadn_0 (pc := 56) dX12_one_56 ?_
      refine a_dup (pc := 57) dX12_one_57 rfl ?_
      refine mg_138 (x := p) hm21 rfl dX12_one_58 rfl ?_
      refine a_iconst (pc := 61) (v := nI 1) dX12_one_61 (by decide) ?_
      refine n_iadd dX12_one_62 ?_
      refine mp_138 (x := p + 1) hm21 rfl dX12_one_63 (fun h22 hm22 => ?_)
      refine a_iloadn_1 (pc := 66) dX12_one_66 ?_
      refine a_bipush (pc := 67) (v := nI 40) dX12_one_67 (by decide) ?_
      refine n_icmp_ne (tgt := 79) dX12_one_69 (by decide) (by omega) (by decide) (fun c_69 => ?_) (fun c_69 => by omega)
      refine a_aloadn_0 (pc := 79) dX12_one_79 ?_
      refine cv_X12_169 (pc := 80) rfl dX12_one_80 hm22.2.2.1 (Nat.le_of_ble_eq_true rfl) ?_
      refine I5 k (Nat.le_refl k) d _ (p + 1) (op + 1) acc _ _ (by omega) (by omega) (by omega) hr1 hm22 (fun h1 v H9 => ?_)
      obtain ⟨at1, op1, ho1, ha1, hm_h1⟩ := H9
      have hf1 := (ps_pb c n hc0 _ _ _ _ _ _ hr1 (by omega) (by omega)).1
      refine a_istoren_2 (pc := 83) dX12_one_83 (by decide) (by first | rfl | trivial) ?_
      refine a_iloadn_1 (pc := 84) dX12_one_84 ?_
      refine a_bipush (pc := 85) (v := nI 40) dX12_one_85 (by decide) ?_
      refine n_icmp_ne (tgt := 104) dX12_one_87 (by decide) (by omega) (by decide) (fun c_87 => ?_) (fun c_87 => by omega)
      refine a_aloadn_0 (pc := 104) dX12_one_104 ?_
      refine a_dup (pc := 105) dX12_one_105 rfl ?_
      refine mg_172 (x := op1) hm_h1 rfl dX12_one_106 rfl ?_
      refine a_iconst (pc := 109) (v := nI 1) dX12_one_109 (by decide) ?_
      refine n_isub dX12_one_110 (by omega) ?_
      refine mp_172 (x := op1 - 1) hm_h1 rfl dX12_one_111 (fun h23 hm23 => ?_)
      refine a_iloadn_1 (pc := 114) dX12_one_114 ?_
      refine a_bipush (pc := 115) (v := nI 40) dX12_one_115 (by decide) ?_
      refine n_icmp_ne (tgt := 124) dX12_one_117 (by decide) (by omega) (by decide) (fun c_117 => ?_) (fun c_117 => by omega)
      refine a_iloadn_1 (pc := 124) dX12_one_124 ?_
      refine a_bipush (pc := 125) (v := nI 45) dX12_one_125 (by decide) ?_
      refine n_icmp_ne (tgt := 135) dX12_one_127 (by decide) (by omega) (by decide) (fun c_127 => ?_) (fun c_127 => by omega)
      refine a_iloadn_2 (pc := 135) dX12_one_135 ?_
      refine a_if_ne (pc := 136) (tgt := 143) dX12_one_136 (by decide) (fun c_136 => ?_) (fun c_136 => ?_)
      · refine a_iconst (pc := 143) (v := nI 0) dX12_one_143 (by decide) ?_
        exact a_iret (pc := 144) dX12_one_144 rfl (zf hz) (kk _ _ ⟨at1, op1 - 1, by omega, ha1, hm23⟩)
      · refine a_iconst (pc := 139) (v := nI 1) dX12_one_139 (by decide) ?_
        refine a_goto (pc := 140) (tgt := 144) dX12_one_140 (by decide) ?_
        exact a_iret (pc := 144) dX12_one_144 rfl (zf hz) (kk _ _ ⟨at1, op1 - 1, by omega, ha1, hm23⟩)
    · refine a_aloadn_0 (pc := 0) dX12_one_0 ?_
      refine mg_147 (x := (-1)) hm rfl dX12_one_1 rfl ?_
      refine a_if_lt (pc := 4) (tgt := 9) dX12_one_4 (by decide) (fun c_4 => ?_) (fun c_4 => absurd c_4 (by decide))
      refine a_aloadn_0 (pc := 9) dX12_one_9 ?_
      refine cv_X12_150 (pc := 10) rfl dX12_one_10 hm.2.2.1 (Nat.le_of_ble_eq_true rfl) ?_
      refine m_byteAt (by omega) hz hb (by omega) hm ?_
      refine a_istoren_1 (pc := 13) dX12_one_13 (by decide) (by first | rfl | trivial) ?_
      refine a_iloadn_1 (pc := 14) dX12_one_14 ?_
      refine a_bipush (pc := 15) (v := nI 33) dX12_one_15 (by decide) ?_
      refine n_icmp_eq (tgt := 32) dX12_one_17 (by decide) (by omega) (by decide) (fun c_17 => by omega) (fun c_17 => ?_)
      refine a_iloadn_1 (pc := 20) dX12_one_20 ?_
      refine a_bipush (pc := 21) (v := nI 45) dX12_one_21 (by decide) ?_
      refine n_icmp_eq (tgt := 32) dX12_one_23 (by decide) (by omega) (by decide) (fun c_23 => ?_) (fun c_23 => by omega)
      refine a_aloadn_0 (pc := 32) dX12_one_32 ?_
      refine mg_172 (x := op) hm rfl dX12_one_33 rfl ?_
      refine a_bipush (pc := 36) (v := nI 6) dX12_one_36 (by decide) ?_
      refine n_icmp_ne (tgt := 46) dX12_one_38 (by decide) (by omega) (by decide) (fun c_38 => ?_) (fun c_38 => by omega)
      refine a_aloadn_0 (pc := 46) dX12_one_46 ?_
      refine a_dup (pc := 47) dX12_one_47 rfl ?_
      refine mg_172 (x := op) hm rfl dX12_one_48 rfl ?_
      refine a_iconst (pc := 51) (v := nI 1) dX12_one_51 (by decide) ?_
      refine n_iadd dX12_one_52 ?_
      refine mp_172 (x := op + 1) hm rfl dX12_one_53 (fun h21 hm21 => ?_)
      refine a_aloadn_0 (pc := 56) dX12_one_56 ?_
      refine a_dup (pc := 57) dX12_one_57 rfl ?_
      refine mg_138 (x := p) hm21 rfl dX12_one_58 rfl ?_
      refine a_iconst (pc := 61) (v := nI 1) dX12_one_61 (by decide) ?_
      refine n_iadd dX12_one_62 ?_
      refine mp_138 (x := p + 1) hm21 rfl dX12_one_63 (fun h22 hm22 => ?_)
      refine a_iloadn_1 (pc := 66) dX12_one_66 ?_
      refine a_bipush (pc := 67) (v := nI 40) dX12_one_67 (by decide) ?_
      refine n_icmp_ne (tgt := 79) dX12_one_69 (by decide) (by omega) (by decide) (fun c_69 => ?_) (fun c_69 => by omega)
      refine a_aloadn_0 (pc := 79) dX12_one_79 ?_
      refine cv_X12_169 (pc := 80) rfl dX12_one_80 hm22.2.2.1 (Nat.le_of_ble_eq_true rfl) ?_
      refine I5 k (Nat.le_refl k) d _ (p + 1) (op + 1) acc _ _ (by omega) (by omega) (by omega) hr1 hm22 (fun h1 v H9 => ?_)
      obtain ⟨at1, op1, ho1, ha1, hm_h1⟩ := H9
      have hf1 := (ps_pb c n hc0 _ _ _ _ _ _ hr1 (by omega) (by omega)).1
      refine a_istoren_2 (pc := 83) dX12_one_83 (by decide) (by first | rfl | trivial) ?_
      refine a_iloadn_1 (pc := 84) dX12_one_84 ?_
      refine a_bipush (pc := 85) (v := nI 40) dX12_one_85 (by decide) ?_
      refine n_icmp_ne (tgt := 104) dX12_one_87 (by decide) (by omega) (by decide) (fun c_87 => ?_) (fun c_87 => by omega)
      refine a_aloadn_0 (pc := 104) dX12_one_104 ?_
      refine a_dup (pc := 105) dX12_one_105 rfl ?_
      refine mg_172 (x := op1) hm_h1 rfl dX12_one_106 rfl ?_
      refine a_iconst (pc := 109) (v := nI 1) dX12_one_109 (by decide) ?_
      refine n_isub dX12_one_110 (by omega) ?_
      refine mp_172 (x := op1 - 1) hm_h1 rfl dX12_one_111 (fun h23 hm23 => ?_)
      refine a_iloadn_1 (pc := 114) dX12_one_114 ?_
      refine a_bipush (pc := 115) (v := nI 40) dX12_one_115 (by decide) ?_
      refine n_icmp_ne (tgt := 124) dX12_one_117 (by decide) (by omega) (by decide) (fun c_117 => ?_) (fun c_117 => by omega)
      refine a_iloadn_1 (pc := 124) dX12_one_124 ?_
      refine a_bipush (pc := 125) (v := nI 45) dX12_one_125 (by decide) ?_
      refine n_icmp_ne (tgt := 135) dX12_one_127 (by decide) (by omega) (by decide) (fun c_127 => by omega) (fun c_127 => ?_)
      refine a_iloadn_2 (pc := 130) dX12_one_130 ?_
      refine a_ineg (pc := 131) dX12_one_131 ?_
      refine a_goto (pc := 132) (tgt := 144) dX12_one_132 (by decide) ?_
      exact a_iret (pc := 144) dX12_one_144 rfl (zf hz) (kk _ _ ⟨at1, op1 - 1, by omega, ha1, hm23⟩)
  · have hpn := ch_lt hc0 (show 0 < c p by omega)
    rcases hcs with hcq | hcq
    · refine a_aloadn_0 (pc := 0) dX12_one_0 ?_
      refine mg_147 (x := (-1)) hm rfl dX12_one_1 rfl ?_
      refine a_if_lt (pc := 4) (tgt := 9) dX12_one_4 (by decide) (fun c_4 => ?_) (fun c_4 => absurd c_4 (by decide))
      refine a_aloadn_0 (pc := 9) dX12_one_9 ?_
      refine cv_X12_150 (pc := 10) rfl dX12_one_10 hm.2.2.1 (Nat.le_of_ble_eq_true rfl) ?_
      refine m_byteAt (by omega) hz hb (by omega) hm ?_
      refine a_istoren_1 (pc := 13) dX12_one_13 (by decide) (by first | rfl | trivial) ?_
      refine a_iloadn_1 (pc := 14) dX12_one_14 ?_
      refine a_bipush (pc := 15) (v := nI 33) dX12_one_15 (by decide) ?_
      refine n_icmp_eq (tgt := 32) dX12_one_17 (by decide) (by omega) (by decide) (fun c_17 => ?_) (fun c_17 => by omega)
      refine a_aloadn_0 (pc := 32) dX12_one_32 ?_
      refine mg_172 (x := op) hm rfl dX12_one_33 rfl ?_
      refine a_bipush (pc := 36) (v := nI 6) dX12_one_36 (by decide) ?_
      refine n_icmp_ne (tgt := 46) dX12_one_38 (by decide) (by omega) (by decide) (fun c_38 => ?_) (fun c_38 => by omega)
      refine a_aloadn_0 (pc := 46) dX12_one_46 ?_
      refine a_dup (pc := 47) dX12_one_47 rfl ?_
      refine mg_172 (x := op) hm rfl dX12_one_48 rfl ?_
      refine a_iconst (pc := 51) (v := nI 1) dX12_one_51 (by decide) ?_
      refine n_iadd dX12_one_52 ?_
      refine mp_172 (x := op + 1) hm rfl dX12_one_53 (fun h21 hm21 => ?_)
      refine a_aloadn_0 (pc := 56) dX12_one_56 ?_
      refine a_dup (pc := 57) dX12_one_57 rfl ?_
      refine mg_138 (x := p) hm21 rfl dX12_one_58 rfl ?_
      refine a_iconst (pc := 61) (v := nI 1) dX12_one_61 (by decide) ?_
      refine n_iadd dX12_one_62 ?_
      refine mp_138 (x := p + 1) hm21 rfl dX12_one_63 (fun h22 hm22 => ?_)
      refine a_iloadn_1 (pc := 66) dX12_one_66 ?_
      refine a_bipush (pc := 67) (v := nI 40) dX12_one_67 (by decide) ?_
      refine n_icmp_ne (tgt := 79) dX12_one_69 (by decide) (by omega) (by decide) (fun c_69 => ?_) (fun c_69 => by omega)
      refine a_aloadn_0 (pc := 79) dX12_one_79 ?_
      refine cv_X12_169 (pc := 80) rfl dX12_one_80 hm22.2.2.1 (Nat.le_of_ble_eq_true rfl) ?_
      refine I5 k (Nat.le_refl k) d _ (p + 1) (op + 1) acc _ _ (by omega) (by omega) (by omega) hr1 hm22 (fun h1 v H9 => ?_)
      obtain ⟨hm_h1, hv_h1⟩ := H9
      have hb_h1 := ps_pb c n hc0 _ _ _ _ _ _ hr1 (by omega) (by omega)
      have hq_h1 := hb_h1.1
      have hl_h1 := hb_h1.2.1
      refine a_istoren_2 (pc := 83) dX12_one_83 (by decide) (by first | rfl | trivial) ?_
      refine a_iloadn_1 (pc := 84) dX12_one_84 ?_
      refine a_bipush (pc := 85) (v := nI 40) dX12_one_85 (by decide) ?_
      refine n_icmp_ne (tgt := 104) dX12_one_87 (by decide) (by omega) (by decide) (fun c_87 => ?_) (fun c_87 => by omega)
      refine a_aloadn_0 (pc := 104) dX12_one_104 ?_
      refine a_dup (pc := 105) dX12_one_105 rfl ?_
      refine mg_172 (x := (op + 1)) hm_h1 rfl dX12_one_106 rfl ?_
      refine a_iconst (pc := 109) (v := nI 1) dX12_one_109 (by decide) ?_
      refine n_isub dX12_one_110 (by omega) ?_
      refine a_topi (nI (op)) (congrArg nI (by omega)) ?_
      refine mp_172 (x := op) hm_h1 rfl dX12_one_111 (fun h23 hm23 => ?_)
      refine a_iloadn_1 (pc := 114) dX12_one_114 ?_
      refine a_bipush (pc := 115) (v := nI 40) dX12_one_115 (by decide) ?_
      refine n_icmp_ne (tgt := 124) dX12_one_117 (by decide) (by omega) (by decide) (fun c_117 => ?_) (fun c_117 => by omega)
      refine a_iloadn_1 (pc := 124) dX12_one_124 ?_
      refine a_bipush (pc := 125) (v := nI 45) dX12_one_125 (by decide) ?_
      refine n_icmp_ne (tgt := 135) dX12_one_127 (by decide) (by omega) (by decide) (fun c_127 => ?_) (fun c_127 => by omega)
      refine a_iloadn_2 (pc := 135) dX12_one_135 ?_
      refine a_if_ne (pc := 136) (tgt := 143) dX12_one_136 (by decide) (fun c_136 => ?_) (fun c_136 => ?_)
      · refine a_iconst (pc := 143) (v := nI 0) dX12_one_143 (by decide) ?_
        exact a_iret (pc := 144) dX12_one_144 rfl (zf hz) (kk _ _ ⟨hm23, by show _ = joinV (if c p = 45 then 126 else 33) (e _) (e _); rw [hcq, ← hv_h1]; show _ = (if v = 0 then 1 else 0); first | rfl | (rw [if_pos c_136]; rfl) | (rw [if_neg c_136]; rfl)⟩)
      · refine a_iconst (pc := 139) (v := nI 1) dX12_one_139 (by decide) ?_
        refine a_goto (pc := 140) (tgt := 144) dX12_one_140 (by decide) ?_
        exact a_iret (pc := 144) dX12_one_144 rfl (zf hz) (kk _ _ ⟨hm23, by show _ = joinV (if c p = 45 then 126 else 33) (e _) (e _); rw [hcq, ← hv_h1]; show _ = (if v = 0 then 1 else 0); first | rfl | (rw [if_pos c_136]; rfl) | (rw [if_neg c_136]; rfl)⟩)
    · refine a_aloadn_0 (pc := 0) dX12_one_0 ?_
      refine mg_147 (x := (-1)) hm rfl dX12_one_1 rfl ?_
      refine a_if_lt (pc := 4) (tgt := 9) dX12_one_4 (by decide) (fun c_4 => ?_) (fun c_4 => absurd c_4 (by decide))
      refine a_aloadn_0 (pc := 9) dX12_one_9 ?_
      refine cv_X12_150 (pc := 10) rfl dX12_one_10 hm.2.2.1 (Nat.le_of_ble_eq_true rfl) ?_
      refine m_byteAt (by omega) hz hb (by omega) hm ?_
      refine a_istoren_1 (pc := 13) dX12_one_13 (by decide) (by first | rfl | trivial) ?_
      refine a_iloadn_1 (pc := 14) dX12_one_14 ?_
      refine a_bipush (pc := 15) (v := nI 33) dX12_one_15 (by decide) ?_
      refine n_icmp_eq (tgt := 32) dX12_one_17 (by decide) (by omega) (by decide) (fun c_17 => by omega) (fun c_17 => ?_)
      refine a_iloadn_1 (pc := 20) dX12_one_20 ?_
      refine a_bipush (pc := 21) (v := nI 45) dX12_one_21 (by decide) ?_
      refine n_icmp_eq (tgt := 32) dX12_one_23 (by decide) (by omega) (by decide) (fun c_23 => ?_) (fun c_23 => by omega)
      refine a_aloadn_0 (pc := 32) dX12_one_32 ?_
      refine mg_172 (x := op) hm rfl dX12_one_33 rfl ?_
      refine a_bipush (pc := 36) (v := nI 6) dX12_one_36 (by decide) ?_
      refine n_icmp_ne (tgt := 46) dX12_one_38 (by decide) (by omega) (by decide) (fun c_38 => ?_) (fun c_38 => by omega)
      refine a_aloadn_0 (pc := 46) dX12_one_46 ?_
      refine a_dup (pc := 47) dX12_one_47 rfl ?_
      refine mg_172 (x := op) hm rfl dX12_one_48 rfl ?_
      refine a_iconst (pc := 51) (v := nI 1) dX12_one_51 (by decide) ?_
      refine n_iadd dX12_one_52 ?_
      refine mp_172 (x := op + 1) hm rfl dX12_one_53 (fun h21 hm21 => ?_)
      refine a_aloadn_0 (pc := 56) dX12_one_56 ?_
      refine a_dup (pc := 57) dX12_one_57 rfl ?_
      refine mg_138 (x := p) hm21 rfl dX12_one_58 rfl ?_
      refine a_iconst (pc := 61) (v := nI 1) dX12_one_61 (by decide) ?_
      refine n_iadd dX12_one_62 ?_
      refine mp_138 (x := p + 1) hm21 rfl dX12_one_63 (fun h22 hm22 => ?_)
      refine a_iloadn_1 (pc := 66) dX12_one_66 ?_
      refine a_bipush (pc := 67) (v := nI 40) dX12_one_67 (by decide) ?_
      refine n_icmp_ne (tgt := 79) dX12_one_69 (by decide) (by omega) (by decide) (fun c_69 => ?_) (fun c_69 => by omega)
      refine a_aloadn_0 (pc := 79) dX12_one_79 ?_
      refine cv_X12_169 (pc := 80) rfl dX12_one_80 hm22.2.2.1 (Nat.le_of_ble_eq_true rfl) ?_
      refine I5 k (Nat.le_refl k) d _ (p + 1) (op + 1) acc _ _ (by omega) (by omega) (by omega) hr1 hm22 (fun h1 v H9 => ?_)
      obtain ⟨hm_h1, hv_h1⟩ := H9
      have hb_h1 := ps_pb c n hc0 _ _ _ _ _ _ hr1 (by omega) (by omega)
      have hq_h1 := hb_h1.1
      have hl_h1 := hb_h1.2.1
      refine a_istoren_2 (pc := 83) dX12_one_83 (by decide) (by first | rfl | trivial) ?_
      refine a_iloadn_1 (pc := 84) dX12_one_84 ?_
      refine a_bipush (pc := 85) (v := nI 40) dX12_one_85 (by decide) ?_
      refine n_icmp_ne (tgt := 104) dX12_one_87 (by decide) (by omega) (by decide) (fun c_87 => ?_) (fun c_87 => by omega)
      refine a_aloadn_0 (pc := 104) dX12_one_104 ?_
      refine a_dup (pc := 105) dX12_one_105 rfl ?_
      refine mg_172 (x := (op + 1)) hm_h1 rfl dX12_one_106 rfl ?_
      refine a_iconst (pc := 109) (v := nI 1) dX12_one_109 (by decide) ?_
      refine n_isub dX12_one_110 (by omega) ?_
      refine a_topi (nI (op)) (congrArg nI (by omega)) ?_
      refine mp_172 (x := op) hm_h1 rfl dX12_one_111 (fun h23 hm23 => ?_)
      refine a_iloadn_1 (pc := 114) dX12_one_114 ?_
      refine a_bipush (pc := 115) (v := nI 40) dX12_one_115 (by decide) ?_
      refine n_icmp_ne (tgt := 124) dX12_one_117 (by decide) (by omega) (by decide) (fun c_117 => ?_) (fun c_117 => by omega)
      refine a_iloadn_1 (pc := 124) dX12_one_124 ?_
      refine a_bipush (pc := 125) (v := nI 45) dX12_one_125 (by decide) ?_
      refine n_icmp_ne (tgt := 135) dX12_one_127 (by decide) (by omega) (by decide) (fun c_127 => by omega) (fun c_127 => ?_)
      refine a_iloadn_2 (pc := 130) dX12_one_130 ?_
      refine a_ineg (pc := 131) dX12_one_131 ?_
      refine a_goto (pc := 132) (tgt := 144) dX12_one_132 (by decide) ?_
      exact a_iret (pc := 144) dX12_one_144 rfl (zf hz) (kk _ _ ⟨hm23, by show _ = joinV (if c p = 45 then 126 else 33) (e _) (e _); rw [hcq, ← hv_h1]; show _ = -v; first | rfl | (rw [if_pos c_136]; rfl) | (rw [if_neg c_136]; rfl)⟩)
  · have hdg2 := dgO_f.mp hdg
    rcases (show (¬ c p = 33 ∧ ¬ c p = 45 ∧ ¬ c p = 40) ∨ (op = 6 ∧ c p = 33) ∨ (op = 6 ∧ c p = 45) ∨ (op = 6 ∧ c p = 40) by omega) with hq9 | ⟨ho6, hcq⟩ | ⟨ho6, hcq⟩ | ⟨ho6, hcq⟩
    · refine a_aloadn_0 (pc := 0) dX12_one_0 ?_
      refine mg_147 (x := (-1)) hm rfl dX12_one_1 rfl ?_
      refine a_if_lt (pc := 4) (tgt := 9) dX12_one_4 (by decide) (fun c_4 => ?_) (fun c_4 => absurd c_4 (by decide))
      refine a_aloadn_0 (pc := 9) dX12_one_9 ?_
      refine cv_X12_150 (pc := 10) rfl dX12_one_10 hm.2.2.1 (Nat.le_of_ble_eq_true rfl) ?_
      refine m_byteAt (by omega) hz hb (by omega) hm ?_
      refine a_istoren_1 (pc := 13) dX12_one_13 (by decide) (by first | rfl | trivial) ?_
      refine a_iloadn_1 (pc := 14) dX12_one_14 ?_
      refine a_bipush (pc := 15) (v := nI 33) dX12_one_15 (by decide) ?_
      refine n_icmp_eq (tgt := 32) dX12_one_17 (by decide) (by omega) (by decide) (fun c_17 => by omega) (fun c_17 => ?_)
      refine a_iloadn_1 (pc := 20) dX12_one_20 ?_
      refine a_bipush (pc := 21) (v := nI 45) dX12_one_21 (by decide) ?_
      refine n_icmp_eq (tgt := 32) dX12_one_23 (by decide) (by omega) (by decide) (fun c_23 => by omega) (fun c_23 => ?_)
      refine a_iloadn_1 (pc := 26) dX12_one_26 ?_
      refine a_bipush (pc := 27) (v := nI 40) dX12_one_27 (by decide) ?_
      refine n_icmp_ne (tgt := 145) dX12_one_29 (by decide) (by omega) (by decide) (fun c_29 => ?_) (fun c_29 => by omega)
      refine a_iloadn_1 (pc := 145) dX12_one_145 ?_
      refine cs_X12_181 (pc := 146) rfl dX12_one_146 (Nat.le_of_ble_eq_true rfl) ?_
      refine m_nameOf (by omega) hz (by omega) ?_
      rw [hno]
      refine a_istoren_2 (pc := 149) dX12_one_149 (by decide) (by first | rfl | trivial) ?_
      refine a_iloadn_2 (pc := 150) dX12_one_150 ?_
      refine a_if_lt (pc := 151) (tgt := 171) dX12_one_151 (by decide) (fun c_151 => ?_) (fun c_151 => absurd (show oI none < 0 by decide) c_151)
      refine a_iconst (pc := 171) (v := nI 0) dX12_one_171 (by decide) ?_
      refine a_istoren_3 (pc := 172) dX12_one_172 (by decide) (by first | rfl | trivial) ?_
      refine a_iconst (pc := 173) (v := nI 0) dX12_one_173 (by decide) ?_
      refine a_istore_4 (pc := 174) dX12_one_174 (by decide) (by first | rfl | trivial) ?_
      refine a_iload_4 (pc := 176) dX12_one_176 ?_
      refine a_iconst (pc := 178) (v := nI 4) dX12_one_178 (by decide) ?_
      refine n_icmp_ge (tgt := 229) dX12_one_179 (by decide) (by decide) (by decide) (fun c_179 => by omega) (fun c_179 => ?_)
      refine a_aloadn_0 (pc := 182) dX12_one_182 ?_
      refine cv_X12_150 (pc := 183) rfl dX12_one_183 hm.2.2.1 (Nat.le_of_ble_eq_true rfl) ?_
      refine m_byteAt (by omega) hz hb (by omega) hm ?_
      refine a_bipush (pc := 186) (v := nI 48) dX12_one_186 (by decide) ?_
      refine n_icmp_lt (tgt := 229) dX12_one_188 (by decide) (by omega) (by decide) (fun c_188 => ?_) (fun c_188 => ?_)
      · refine a_iload_4 (pc := 229) dX12_one_229 ?_
        refine n_if_ne (tgt := 241) dX12_one_231 (by decide) (by decide) (fun c_231 => by omega) (fun c_231 => ?_)
        refine a_aloadn_0 (pc := 234) dX12_one_234 ?_
        refine cv_X12_175 (pc := 235) rfl dX12_one_235 hm.2.2.1 (Nat.le_of_ble_eq_true rfl) ?_
        refine m_wrong (by omega) hz hb (by omega) hm (fun h7 hm7 => ?_)
        refine a_goto (pc := 238) (tgt := 242) dX12_one_238 (by decide) ?_
        exact a_iret (pc := 242) dX12_one_242 rfl (zf hz) (kk _ _ ⟨p, op, by omega, by omega, hm7⟩)
      · refine a_aloadn_0 (pc := 191) dX12_one_191 ?_
        refine cv_X12_150 (pc := 192) rfl dX12_one_192 hm.2.2.1 (Nat.le_of_ble_eq_true rfl) ?_
        refine m_byteAt (by omega) hz hb (by omega) hm ?_
        refine a_bipush (pc := 195) (v := nI 57) dX12_one_195 (by decide) ?_
        refine n_icmp_gt (tgt := 229) dX12_one_197 (by decide) (by omega) (by decide) (fun c_197 => ?_) (fun c_197 => by omega)
        refine a_iload_4 (pc := 229) dX12_one_229 ?_
        refine n_if_ne (tgt := 241) dX12_one_231 (by decide) (by decide) (fun c_231 => by omega) (fun c_231 => ?_)
        refine a_aloadn_0 (pc := 234) dX12_one_234 ?_
        refine cv_X12_175 (pc := 235) rfl dX12_one_235 hm.2.2.1 (Nat.le_of_ble_eq_true rfl) ?_
        refine m_wrong (by omega) hz hb (by omega) hm (fun h7 hm7 => ?_)
        refine a_goto (pc := 238) (tgt := 242) dX12_one_238 (by decide) ?_
        exact a_iret (pc := 242) dX12_one_242 rfl (zf hz) (kk _ _ ⟨p, op, by omega, by omega, hm7⟩)
    · refine a_aloadn_0 (pc := 0) dX12_one_0 ?_
      refine mg_147 (x := (-1)) hm rfl dX12_one_1 rfl ?_
      refine a_if_lt (pc := 4) (tgt := 9) dX12_one_4 (by decide) (fun c_4 => ?_) (fun c_4 => absurd c_4 (by decide))
      refine a_aloadn_0 (pc := 9) dX12_one_9 ?_
      refine cv_X12_150 (pc := 10) rfl dX12_one_10 hm.2.2.1 (Nat.le_of_ble_eq_true rfl) ?_
      refine m_byteAt (by omega) hz hb (by omega) hm ?_
      refine a_istoren_1 (pc := 13) dX12_one_13 (by decide) (by first | rfl | trivial) ?_
      refine a_iloadn_1 (pc := 14) dX12_one_14 ?_
      refine a_bipush (pc := 15) (v := nI 33) dX12_one_15 (by decide) ?_
      refine n_icmp_eq (tgt := 32) dX12_one_17 (by decide) (by omega) (by decide) (fun c_17 => ?_) (fun c_17 => by omega)
      refine a_aloadn_0 (pc := 32) dX12_one_32 ?_
      refine mg_172 (x := op) hm rfl dX12_one_33 rfl ?_
      refine a_bipush (pc := 36) (v := nI 6) dX12_one_36 (by decide) ?_
      refine n_icmp_ne (tgt := 46) dX12_one_38 (by decide) (by omega) (by decide) (fun c_38 => by omega) (fun c_38 => ?_)
      refine a_aloadn_0 (pc := 41) dX12_one_41 ?_
      refine cv_X12_175 (pc := 42) rfl dX12_one_42 hm.2.2.1 (Nat.le_of_ble_eq_true rfl) ?_
      refine m_wrong (by omega) hz hb (by omega) hm (fun h7 hm7 => ?_)
      exact a_iret (pc := 45) dX12_one_45 rfl (zf hz) (kk _ _ ⟨p, op, by omega, by omega, hm7⟩)
    · refine a_aloadn_0 (pc := 0) dX12_one_0 ?_
      refine mg_147 (x := (-1)) hm rfl dX12_one_1 rfl ?_
      refine a_if_lt (pc := 4) (tgt := 9) dX12_one_4 (by decide) (fun c_4 => ?_) (fun c_4 => absurd c_4 (by decide))
      refine a_aloadn_0 (pc := 9) dX12_one_9 ?_
      refine cv_X12_150 (pc := 10) rfl dX12_one_10 hm.2.2.1 (Nat.le_of_ble_eq_true rfl) ?_
      refine m_byteAt (by omega) hz hb (by omega) hm ?_
      refine a_istoren_1 (pc := 13) dX12_one_13 (by decide) (by first | rfl | trivial) ?_
      refine a_iloadn_1 (pc := 14) dX12_one_14 ?_
      refine a_bipush (pc := 15) (v := nI 33) dX12_one_15 (by decide) ?_
      refine n_icmp_eq (tgt := 32) dX12_one_17 (by decide) (by omega) (by decide) (fun c_17 => by omega) (fun c_17 => ?_)
      refine a_iloadn_1 (pc := 20) dX12_one_20 ?_
      refine a_bipush (pc := 21) (v := nI 45) dX12_one_21 (by decide) ?_
      refine n_icmp_eq (tgt := 32) dX12_one_23 (by decide) (by omega) (by decide) (fun c_23 => ?_) (fun c_23 => by omega)
      refine a_aloadn_0 (pc := 32) dX12_one_32 ?_
      refine mg_172 (x := op) hm rfl dX12_one_33 rfl ?_
      refine a_bipush (pc := 36) (v := nI 6) dX12_one_36 (by decide) ?_
      refine n_icmp_ne (tgt := 46) dX12_one_38 (by decide) (by omega) (by decide) (fun c_38 => by omega) (fun c_38 => ?_)
      refine a_aloadn_0 (pc := 41) dX12_one_41 ?_
      refine cv_X12_175 (pc := 42) rfl dX12_one_42 hm.2.2.1 (Nat.le_of_ble_eq_true rfl) ?_
      refine m_wrong (by omega) hz hb (by omega) hm (fun h7 hm7 => ?_)
      exact a_iret (pc := 45) dX12_one_45 rfl (zf hz) (kk _ _ ⟨p, op, by omega, by omega, hm7⟩)
    · refine a_aloadn_0 (pc := 0) dX12_one_0 ?_
      refine mg_147 (x := (-1)) hm rfl dX12_one_1 rfl ?_
      refine a_if_lt (pc := 4) (tgt := 9) dX12_one_4 (by decide) (fun c_4 => ?_) (fun c_4 => absurd c_4 (by decide))
      refine a_aloadn_0 (pc := 9) dX12_one_9 ?_
      refine cv_X12_150 (pc := 10) rfl dX12_one_10 hm.2.2.1 (Nat.le_of_ble_eq_true rfl) ?_
      refine m_byteAt (by omega) hz hb (by omega) hm ?_
      refine a_istoren_1 (pc := 13) dX12_one_13 (by decide) (by first | rfl | trivial) ?_
      refine a_iloadn_1 (pc := 14) dX12_one_14 ?_
      refine a_bipush (pc := 15) (v := nI 33) dX12_one_15 (by decide) ?_
      refine n_icmp_eq (tgt := 32) dX12_one_17 (by decide) (by omega) (by decide) (fun c_17 => by omega) (fun c_17 => ?_)
      refine a_iloadn_1 (pc := 20) dX12_one_20 ?_
      refine a_bipush (pc := 21) (v := nI 45) dX12_one_21 (by decide) ?_
      refine n_icmp_eq (tgt := 32) dX12_one_23 (by decide) (by omega) (by decide) (fun c_23 => by omega) (fun c_23 => ?_)
      refine a_iloadn_1 (pc := 26) dX12_one_26 ?_
      refine a_bipush (pc := 27) (v := nI 40) dX12_one_27 (by decide) ?_
      refine n_icmp_ne (tgt := 145) dX12_one_29 (by decide) (by omega) (by decide) (fun c_29 => by omega) (fun c_29 => ?_)
      refine a_aloadn_0 (pc := 32) dX12_one_32 ?_
      refine mg_172 (x := op) hm rfl dX12_one_33 rfl ?_
      refine a_bipush (pc := 36) (v := nI 6) dX12_one_36 (by decide) ?_
      refine n_icmp_ne (tgt := 46) dX12_one_38 (by decide) (by omega) (by decide) (fun c_38 => by omega) (fun c_38 => ?_)
      refine a_aloadn_0 (pc := 41) dX12_one_41 ?_
      refine cv_X12_175 (pc := 42) rfl dX12_one_42 hm.2.2.1 (Nat.le_of_ble_eq_true rfl) ?_
      refine m_wrong (by omega) hz hb (by omega) hm (fun h7 hm7 => ?_)
      exact a_iret (pc := 45) dX12_one_45 rfl (zf hz) (kk _ _ ⟨p, op, by omega, by omega, hm7⟩)

theorem mg_all {G : Cx} {h0 : List va_E} {b : MB} {t : MT} {o : MO} {bs : Int32} {n : Nat} {nms c : Nat → Nat} (hz : gz G = false) (hb : BYT b bs n c) : ∀ k, (∀ j, j ≤ k → Mg0 G h0 b t o bs n nms c j) ∧ (∀ j, j ≤ k → Mg1 G h0 b t o bs n nms c j) ∧ (∀ j, j ≤ k → Mg2 G h0 b t o bs n nms c j) ∧ (∀ j, j ≤ k → Mg3 G h0 b t o bs n nms c j) ∧ (∀ j, j ≤ k → Mg4 G h0 b t o bs n nms c j) ∧ (∀ j, j ≤ k → Mg5 G h0 b t o bs n nms c j)
  | 0 => by
    refine ⟨?_, ?_, ?_, ?_, ?_, ?_⟩ <;> (intro j hj; obtain rfl : j = 0 := by omega) <;> (intro d h p op acc Q r _ _ _ H; exact (ps_0 H).elim)
  | k + 1 => by
    obtain ⟨I0, I1, I2, I3, I4, I5⟩ := mg_all hz hb k
    refine ⟨fun j hj => ?_, fun j hj => ?_, fun j hj => ?_, fun j hj => ?_, fun j hj => ?_, fun j hj => ?_⟩ <;> rcases Nat.lt_or_ge k j with q | q
    · obtain rfl : j = k + 1 := by omega
      exact mg0_s hz hb I1
    · exact I0 j q
    · obtain rfl : j = k + 1 := by omega
      exact mg1_s hz hb I2
    · exact I1 j q
    · obtain rfl : j = k + 1 := by omega
      exact mg2_s hz hb I3
    · exact I2 j q
    · obtain rfl : j = k + 1 := by omega
      exact mg3_s hz hb I4
    · exact I3 j q
    · obtain rfl : j = k + 1 := by omega
      exact mg4_s hz hb I5
    · exact I4 j q
    · obtain rfl : j = k + 1 := by omega
      exact mg5_s hz hb I0 I5
    · exact I5 j q
