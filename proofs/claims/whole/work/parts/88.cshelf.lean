/-! THE CLASS: saucers, shelves -/
theorem rn_eq {s z : Rn} (w : Nat) (h : s.2 = z.2) (h2 : ∀ j, j < min s.2 24 → s.1 j = z.1 j) : (rn s w).2 = (rn z w).2 ∧ ∀ j, j < min (rn s w).2 24 → (rn s w).1 j = (rn z w).1 j := by
  unfold rn
  rw [← h]
  refine ⟨rfl, fun j hj => ?_⟩
  have hj : j < min (s.2 + 1) 24 := hj
  by_cases q : s.2 < 24
  · rw [if_pos q, if_pos q]
    show va_up s.1 s.2 w j = va_up z.1 s.2 w j
    by_cases e : j = s.2
    · rw [e, up_eq, up_eq]
    · rw [up_ne e, up_ne e]; exact h2 j (by omega)
  · rw [if_neg q, if_neg q]; exact h2 j (by omega)
theorem rns_eq : ∀ (l : List Nat) (s z : Rn), s.2 = z.2 → (∀ j, j < min s.2 24 → s.1 j = z.1 j) → (rns s l).2 = (rns z l).2 ∧ ∀ j, j < min (rns s l).2 24 → (rns s l).1 j = (rns z l).1 j
  | [], _, _, h, h2 => ⟨h, h2⟩
  | w :: l, s, z, h, h2 => by
    obtain ⟨a, b⟩ := rn_eq w h h2
    exact rns_eq l (rn s w) (rn z w) a b
theorem actS_len (n sk ac : Nat) (x : Int32) : (actS n sk ac x).2.length ≤ 14 := by
  unfold actS
  split
  · have := bS_len n sk x; omega
  · have := hS_len n sk sk x; omega
  · have := lS_len n sk sk x; omega
  · exact tlS_len n sk sk x
theorem inR_mb {n : Nat} {x : Int32} (hn : n ≤ 50) : inR (-1) (nI n - nI 1) x = true ↔ x = -1 ∨ inR 0 (nI n - nI 1) x = true := by
  unfold inR
  have hv : (nI n - nI 1).toInt = (n : Int) - 1 := pk_sub_toInt (by omega) (by decide)
  have h1 : (-1 : Int32).toInt = -1 := by decide
  have h0 : (0 : Int32).toInt = 0 := by decide
  rw [Bool.and_eq_true_iff, Bool.and_eq_true_iff, decide_eq_true_iff, decide_eq_true_iff, decide_eq_true_iff, Int32.le_iff_toInt_le, Int32.le_iff_toInt_le, Int32.le_iff_toInt_le, hv, h1, h0]
  constructor
  · rintro ⟨a, b⟩
    by_cases e : x.toInt = -1
    · exact Or.inl (Int32.toInt_inj.mp (e.trans h1.symm))
    · exact Or.inr ⟨by omega, b⟩
  · rintro (rfl | ⟨a, b⟩)
    · rw [h1]; exact ⟨Int.le_refl _, by omega⟩
    · exact ⟨by omega, b⟩
theorem BYt_i (y : Int32) : BYt y.toInt64 := by
  unfold BYt
  rw [Int32.toInt32_toInt64]
theorem BYt_as (x : Int64) : BYt (asS 0 x) := BYt_i _
theorem updI_eq {f : Nat → Int32} {j : Nat} {x : Int32} : upd f j x j = x := by unfold upd; rw [if_pos rfl]
theorem updI_ne {f : Nat → Int32} {i j : Nat} {x : Int32} (h : i ≠ j) : upd f j x i = f i := by unfold upd; rw [if_neg h]
set_option maxRecDepth 100000 in
set_option maxHeartbeats 4000000 in
theorem p_body {G : Cx} {d c : Nat} {h h0 : List va_E} {b : MB} {v : Cv} {F : Lf} {Q : Option Value → List va_E → Prop} (hd : 5 ≤ d) (hz : gz G = false) (hC : COb G h0 h b v F c) {x : Int32} (k0 : inR 0 (nI 7) x = false → COb G h0 h b v F c → Q (some (.int (-1))) h) (k2 : ∀ n, n < 8 → x = nI n → gBodies b = 50 → COb G h0 h b v F c → Q (some (.int (-3))) h) (k1 : ∀ n, n < 8 → x = nI n → gBodies b < 50 → ∀ h1, COb G h0 h1 (uBodies (uBodyKind b (va_up (gBodyKind b) (gBodies b) n)) (gBodies b + 1)) v F c → Q (some (.int (nI (gBodies b)))) h1) : AM G yX11_body cX11_body 2 (some .int) d 0 0 [.ref (gB G + 0), .int (x)] h Q := by
  obtain ⟨d, rfl, he⟩ := dpos hd
  refine AM.of [some (.ref (gB G + 0)), some (.int (x))] pnX11 (Nat.le_of_ble_eq_true rfl) (by simp [lsub, lvI, Value.category]) ?_
  refine a_iloadn_1 (pc := 0) dX11_body_0 ?_
  refine a_iconst (pc := 1) (v := nI 0) dX11_body_1 (by decide) ?_
  refine a_bipush (pc := 2) (v := nI 7) dX11_body_2 (by decide) ?_
  refine cs_X11_101 (pc := 4) rfl dX11_body_4 (Nat.le_of_ble_eq_true rfl) ?_
  refine x_within (by omega) hz ?_
  refine a_topi (bI (inR 0 (nI 7) x)) rfl ?_
  refine b_if_eq (pc := 7) (tgt := 21) dX11_body_7 (by decide) (fun c_7 => ?_) (fun c_7 => ?_)
  · refine a_iconst (pc := 21) (v := (-1)) dX11_body_21 (by decide) ?_
    exact a_iret (pc := 22) dX11_body_22 rfl (zf hz) (k0 c_7 hC)
  · obtain ⟨n_x, h_x, rfl⟩ := inR_of (by decide) c_7
    have i_x : iN (nI n_x) = n_x := iN_nI (by omega)
    refine a_aloadn_0 (pc := 10) dX11_body_10 ?_
    refine gf_X11_75 (pc := 11) rfl dX11_body_11 hC.c0 ?_
    refine a_iloadn_1 (pc := 14) dX11_body_14 ?_
    obtain ⟨⟨ak, az, af⟩, ⟨st9, sr9⟩, S0, r1, r2, r3, r4⟩ := hC.toS
    have r1 : az = gBodies b := r1
    have r3 : sr9 = gRan b := r3
    subst r1 r3
    have hB := hC.2.1.2.2.2.1.1
    have hK8 := hC.2.1.2.2.2.2.1
    have hR9 := hC.2.1.2.2.2.2.2.1
    refine cv_X11_287 (pc := 15) rfl dX11_body_15 S0.ob (Nat.le_of_ble_eq_true rfl) ?_
    refine k_add (by omega) hz S0 (show gBodies b < 1000 by omega) (fun hp => ?_) (fun hp h1 H1 => ?_)
    · have hp : 50 ≤ gBodies b := hp
      refine a_goto (pc := 18) (tgt := 22) dX11_body_18 (by decide) ?_
      exact a_iret (pc := 22) dX11_body_22 rfl (zf hz) (k2 n_x (by omega) rfl (by omega) hC)
    · have hp : gBodies b < 50 := hp
      have hC1 := COb.su (k9 := gBodies b + 1) (kd := va_up (gBodyKind b) (gBodies b) n_x) (tr := gTrace b) (rn9 := gRan b) H1 ⟨rfl, fun i hi => (by
        have hi : i < gBodies b + 1 := hi
        show va_up ak (gBodies b) n_x i = va_up (gBodyKind b) (gBodies b) n_x i
        by_cases e : i = gBodies b
        · rw [e, up_eq, up_eq]
        · rw [up_ne e, up_ne e]; exact r2 i (by omega)), rfl, r4⟩ (by omega) (fun i hi => (by
        by_cases e : i = gBodies b
        · rw [e, up_eq]; omega
        · rw [up_ne e]; exact hK8 i (by omega))) hR9 hC
      refine a_goto (pc := 18) (tgt := 22) dX11_body_18 (by decide) ?_
      exact a_iret (pc := 22) dX11_body_22 rfl (zf hz) (k1 n_x (by omega) rfl hp _ hC1)
set_option maxRecDepth 100000 in
set_option maxHeartbeats 4000000 in
theorem p_act {G : Cx} {d c : Nat} {h h0 : List va_E} {b : MB} {v : Cv} {F : Lf} {Q : Option Value → List va_E → Prop} (hd : 18 ≤ d) (hz : gz G = false) (hC : COb G h0 h b v F c) {sc ac x : Int32} (k0 : (inR 0 (nI (gBodies b) - nI 1) sc && inR 0 (nI 3) ac) = false → ∀ h1, COb G h0 h1 (uRan b 0) v F c → Q (some (.int (nI 0))) h1) (k1 : ∀ n m, n < gBodies b → sc = nI n → m < 4 → ac = nI m → ∀ h1, COb G h0 h1 (uRan (uTrace b (rns (gTrace b, 0) (actS n (gBodyKind b n) m x).2).1) (rns (gTrace b, 0) (actS n (gBodyKind b n) m x).2).2) v F c → Q (some (.int (actS n (gBodyKind b n) m x).1)) h1) : AM G yX11_act cX11_act 4 (some .int) d 0 0 [.ref (gB G + 0), .int (sc), .int (ac), .int (x)] h Q := by
  obtain ⟨d, rfl, he⟩ := dpos hd
  refine AM.of [some (.ref (gB G + 0)), some (.int (sc)), some (.int (ac)), some (.int (x))] pnX11 (Nat.le_of_ble_eq_true rfl) (by simp [lsub, lvI, Value.category]) ?_
  refine a_aloadn_0 (pc := 0) dX11_act_0 ?_
  refine gf_X11_75 (pc := 1) rfl dX11_act_1 hC.c0 ?_
  refine a_iloadn_1 (pc := 4) dX11_act_4 ?_
  refine a_iloadn_2 (pc := 5) dX11_act_5 ?_
  refine a_iloadn_3 (pc := 6) dX11_act_6 ?_
  obtain ⟨⟨ak, az, af⟩, ⟨st9, sr9⟩, S0, r1, r2, r3, r4⟩ := hC.toS
  have r1 : az = gBodies b := r1
  have r3 : sr9 = gRan b := r3
  subst r1 r3
  have hB := hC.2.1.2.2.2.1.1
  have hK8 := hC.2.1.2.2.2.2.1
  have hR9 := hC.2.1.2.2.2.2.2.1
  refine cv_X11_288 (pc := 7) rfl dX11_act_7 S0.ob (Nat.le_of_ble_eq_true rfl) ?_
  refine k_perform (by omega) hz S0 hB (fun i hi => by show ak i < 8; rw [show ak i = gBodyKind b i from r2 i hi]; exact hK8 i hi) (fun hp h1 H1 => ?_) (fun n m hn hsc hm hac h1 H1 => ?_)
  · have hC1 := COb.su (k9 := gBodies b) (kd := gBodyKind b) (tr := gTrace b) (rn9 := 0) H1 ⟨rfl, r2, rfl, fun j hj => absurd hj (by show ¬ j < min 0 24; omega)⟩ (by omega) hK8 (by omega) hC
    exact a_iret (pc := 10) dX11_act_10 rfl (zf hz) (k0 hp _ hC1)
  · have e9 : ak n = gBodyKind b n := r2 n hn
    have H1 : SU G h h1 (ak, gBodies b, n, ak n) (rns (st9, 0) (actS n (ak n) m x).2) := H1
    rw [e9] at H1
    obtain ⟨q1, q2⟩ := rns_eq (actS n (gBodyKind b n) m x).2 (st9, 0) (gTrace b, 0) rfl (fun j hj => absurd hj (by show ¬ j < min 0 24; omega))
    have ql := actS_len n (gBodyKind b n) m x
    have qn := rns_len (actS n (gBodyKind b n) m x).2 (gTrace b, 0)
    have qn : (rns (gTrace b, 0) (actS n (gBodyKind b n) m x).2).2 = 0 + _ := qn
    have hC1 := COb.su (k9 := gBodies b) (kd := gBodyKind b) (tr := (rns (gTrace b, 0) (actS n (gBodyKind b n) m x).2).1) (rn9 := (rns (gTrace b, 0) (actS n (gBodyKind b n) m x).2).2) H1 ⟨rfl, r2, q1, fun j hj => q2 j (by rw [q1]; exact hj)⟩ (by omega) hK8 (by omega) hC
    exact a_iret (pc := 10) dX11_act_10 rfl (zf hz) (by have k1 := k1 n m hn hsc hm hac _ hC1; rw [show ((ak, gBodies b, af) : Su).1 n = gBodyKind b n from e9]; exact k1)
set_option maxRecDepth 100000 in
set_option maxHeartbeats 4000000 in
theorem p_trace {G : Cx} {d c : Nat} {h h0 : List va_E} {b : MB} {v : Cv} {F : Lf} {Q : Option Value → List va_E → Prop} (hd : 5 ≤ d) (hz : gz G = false) (hC : COb G h0 h b v F c) {x : Int32} (k0 : inR 0 (nI (min (gRan b) 24) - nI 1) x = false → COb G h0 h b v F c → Q (some (.int (-1))) h) (k1 : ∀ n, n < min (gRan b) 24 → x = nI n → COb G h0 h b v F c → Q (some (.int (nI (gTrace b n)))) h) : AM G yX11_trace cX11_trace 2 (some .int) d 0 0 [.ref (gB G + 0), .int (x)] h Q := by
  obtain ⟨d, rfl, he⟩ := dpos hd
  refine AM.of [some (.ref (gB G + 0)), some (.int (x))] pnX11 (Nat.le_of_ble_eq_true rfl) (by simp [lsub, lvI, Value.category]) ?_
  refine a_aloadn_0 (pc := 0) dX11_trace_0 ?_
  refine gf_X11_75 (pc := 1) rfl dX11_trace_1 hC.c0 ?_
  refine a_iloadn_1 (pc := 4) dX11_trace_4 ?_
  obtain ⟨⟨ak, az, af⟩, ⟨st9, sr9⟩, S0, r1, r2, r3, r4⟩ := hC.toS
  have r1 : az = gBodies b := r1
  have r3 : sr9 = gRan b := r3
  subst r1 r3
  have hB := hC.2.1.2.2.2.1.1
  have hK8 := hC.2.1.2.2.2.2.1
  have hR9 := hC.2.1.2.2.2.2.2.1
  refine cv_X11_291 (pc := 5) rfl dX11_trace_5 S0.ob (Nat.le_of_ble_eq_true rfl) ?_
  refine k_traced (by omega) hz S0 hR9 (fun hp => ?_) (fun n hn hx => ?_)
  · exact a_iret (pc := 8) dX11_trace_8 rfl (zf hz) (k0 hp hC)
  · have hn : n < min (gRan b) 24 := hn
    have e9 : st9 n = gTrace b n := r4 n hn
    exact a_iret (pc := 8) dX11_trace_8 rfl (zf hz) (by rw [show ((st9, gRan b) : Rn).1 n = gTrace b n from e9]; exact k1 n hn hx hC)
set_option maxRecDepth 100000 in
set_option maxHeartbeats 4000000 in
theorem p_keep {G : Cx} {d c : Nat} {h h0 : List va_E} {b : MB} {v : Cv} {F : Lf} {Q : Option Value → List va_E → Prop} (hd : 5 ≤ d) (hz : gz G = false) (hC : COb G h0 h b v F c) {dd w : Int32} (k0 : (inR 0 (nI 5) dd && (decide (w = -1) || inR 0 (nI (gBodies b) - nI 1) w)) = false → COb G h0 h b v F c → Q (some (.int (-1))) h) (k1 : ∀ q, q < 6 → dd = nI q → (w = -1 ∨ inR 0 (nI (gBodies b) - nI 1) w = true) → ∀ h1, COb G h0 h1 (uMany (uShelf b (upd (gShelf b) q w)) (va_up (gMany b) q 0)) v F c → Q (some (.int (nI 1))) h1) : AM G yX11_keep cX11_keep 3 (some .int) d 0 0 [.ref (gB G + 0), .int (dd), .int (w)] h Q := by
  obtain ⟨d, rfl, he⟩ := dpos hd
  refine AM.of [some (.ref (gB G + 0)), some (.int (dd)), some (.int (w))] pnX11 (Nat.le_of_ble_eq_true rfl) (by simp [lsub, lvI, Value.category]) ?_
  refine a_iloadn_1 (pc := 0) dX11_keep_0 ?_
  refine cs_X11_97 (pc := 1) rfl dX11_keep_1 (Nat.le_of_ble_eq_true rfl) ?_
  refine p_isShelf (by omega) hz ?_
  refine b_if_eq (pc := 4) (tgt := 24) dX11_keep_4 (by decide) (fun c_4 => ?_) (fun c_4 => ?_)
  · refine a_iconst (pc := 24) (v := (-1)) dX11_keep_24 (by decide) ?_
    exact a_iret (pc := 25) dX11_keep_25 rfl (zf hz) (k0 (by first | (simp [c_4]; done) | (rw [c_4, Bool.true_and]; exact Bool.eq_false_iff.mpr (fun z => by
        have z2 : w = -1 ∨ inR 0 (nI (gBodies b) - nI 1) w = true := by simpa using z
        rw [(inR_mb hB).mpr z2] at c_21; cases c_21))) hC)
  · obtain ⟨n_dd, h_dd, rfl⟩ := inR_of (by decide) c_4
    have i_dd : iN (nI n_dd) = n_dd := iN_nI (by omega)
    refine a_iloadn_2 (pc := 7) dX11_keep_7 ?_
    refine a_iconst (pc := 8) (v := (-1)) dX11_keep_8 (by decide) ?_
    refine a_aloadn_0 (pc := 9) dX11_keep_9 ?_
    refine gf_X11_75 (pc := 10) rfl dX11_keep_10 hC.c0 ?_
    obtain ⟨⟨ak, az, af⟩, ⟨st9, sr9⟩, T0, r1, r2, r3, r4⟩ := hC.toS
    refine gf_X11_294 (pc := 13) rfl dX11_keep_13 T0.ob ?_
    refine a_topi (nI (gBodies b)) (congrArg nI r1) ?_
    refine a_iconst (pc := 16) (v := nI 1) dX11_keep_16 (by decide) ?_
    refine a_isub (pc := 17) dX11_keep_17 ?_
    have hB := hC.2.1.2.2.2.1.1
    refine cs_X11_101 (pc := 18) rfl dX11_keep_18 (Nat.le_of_ble_eq_true rfl) ?_
    refine x_within (by omega) hz ?_
    refine b_if_ne (pc := 21) (tgt := 26) dX11_keep_21 (by decide) (fun c_21 => ?_) (fun c_21 => ?_)
    · refine a_aloadn_0 (pc := 26) dX11_keep_26 ?_
      refine gf_X11_81 (pc := 27) rfl dX11_keep_27 hC.c0 ?_
      refine a_iloadn_1 (pc := 30) dX11_keep_30 ?_
      have hw := (inR_mb hB).mp c_21
      have hw2 : w = -1 ∨ ∃ n, n < gBodies b ∧ w = nI n := hw.imp id (fun z => body_of hB z)
      obtain ⟨sc, rw9, so, sz, el, S0, R0⟩ := hC.toQ (q := n_dd) (by omega)
      have hB := hC.2.1.2.2.2.1.1
      have hS := hC.2.1.2.2.2.1
      obtain ⟨hS1, hS2⟩ := hS
      refine sl_65 (j := n_dd) hC.c65 dX11_keep_31 (by omega) ?_
      refine a_iloadn_2 (pc := 32) dX11_keep_32 ?_
      refine cv_X11_297 (pc := 33) rfl dX11_keep_33 S0.2.2.1 (Nat.le_of_ble_eq_true rfl) ?_
      refine s_holdSaucer (by omega) hz S0 (fun h1 H1 => ?_)
      have hC1 := COb.sh (q := n_dd) (sh := upd (gShelf b) n_dd w) (my := va_up (gMany b) n_dd 0) (it := gItems b) (by omega) H1 ⟨R0.1, Or.inl ⟨rfl, updI_eq.symm, (show upd (gShelf b) n_dd w n_dd = -1 ∨ ∃ n, n < gBodies b ∧ upd (gShelf b) n_dd w n_dd = nI n by rw [updI_eq]; exact hw2)⟩⟩ (fun i hi hq => ⟨updI_ne hq, up_ne hq, fun j hj => rfl⟩) ⟨hS1, fun q hq => (by
        show ((upd _ _ _ q = -1 ∧ va_up _ _ _ q = 0) ∨ (∃ n, n < gBodies b ∧ upd _ _ _ q = nI n ∧ va_up _ _ _ q = 0) ∨ (∃ s, s < 5 ∧ upd _ _ _ q = nI (50 + s))) ∧ va_up _ _ _ q ≤ 60
        by_cases e : q = n_dd
        · subst e; rw [updI_eq, up_eq]; rcases hw2 with z | ⟨n, z1, z2⟩
          · exact ⟨Or.inl ⟨z, rfl⟩, by omega⟩
          · exact ⟨Or.inr (Or.inl ⟨n, z1, z2, rfl⟩), by omega⟩
        · rw [updI_ne e, up_ne e]; exact hS2 q hq)⟩ hC
      refine a_iconst (pc := 36) (v := nI 1) dX11_keep_36 (by decide) ?_
      exact a_iret (pc := 37) dX11_keep_37 rfl (zf hz) (k1 n_dd (by omega) rfl hw _ hC1)
    · refine a_iconst (pc := 24) (v := (-1)) dX11_keep_24 (by decide) ?_
      exact a_iret (pc := 25) dX11_keep_25 rfl (zf hz) (k0 (by first | (simp [c_4, i_dd, c_21]; done) | (rw [c_4, Bool.true_and]; exact Bool.eq_false_iff.mpr (fun z => by
          have z2 : w = -1 ∨ inR 0 (nI (gBodies b) - nI 1) w = true := by simpa using z
          rw [(inR_mb hB).mpr z2] at c_21; cases c_21))) hC)
theorem BYt_0 : BYt 0 := by unfold BYt; decide
set_option maxRecDepth 100000 in
set_option maxHeartbeats 4000000 in
theorem p_row {G : Cx} {d c : Nat} {h h0 : List va_E} {b : MB} {v : Cv} {F : Lf} {Q : Option Value → List va_E → Prop} (hd : 5 ≤ d) (hz : gz G = false) (hC : COb G h0 h b v F c) {dd s n : Int32} (k0 : (inR 0 (nI 5) dd && (inR 0 (nI 4) s && decide (n ≤ nI 60))) = false → COb G h0 h b v F c → Q (some (.int (-1))) h) (k2 : (inR 0 (nI 5) dd && (inR 0 (nI 4) s && decide (n ≤ nI 60))) = true → n < 0 → COb G h0 h b v F c → Q (some (.int (-14))) h) (k1 : ∀ q s1 m, q < 6 → dd = nI q → s1 < 5 → s = nI s1 → m ≤ 60 → n = nI m → ∀ h1, (∀ f : Nat → Int64, (∀ i, i < 60 → f (60 * q + i) = 0) → (∀ j, j < 60 * q ∨ 60 * q + 60 ≤ j → f j = gItems b j) → COb G h0 h1 (uItems (uMany (uShelf b (upd (gShelf b) q (nI (50 + s1)))) (va_up (gMany b) q m)) f) v F c) → Q (some (.int (nI 1))) h1) : AM G yX11_row cX11_row 4 (some .int) d 0 0 [.ref (gB G + 0), .int (dd), .int (s), .int (n)] h Q := by
  obtain ⟨d, rfl, he⟩ := dpos hd
  refine AM.of [some (.ref (gB G + 0)), some (.int (dd)), some (.int (s)), some (.int (n))] pnX11 (Nat.le_of_ble_eq_true rfl) (by simp [lsub, lvI, Value.category]) ?_
  refine a_iloadn_1 (pc := 0) dX11_row_0 ?_
  refine cs_X11_97 (pc := 1) rfl dX11_row_1 (Nat.le_of_ble_eq_true rfl) ?_
  refine p_isShelf (by omega) hz ?_
  refine b_if_eq (pc := 4) (tgt := 22) dX11_row_4 (by decide) (fun c_4 => ?_) (fun c_4 => ?_)
  · refine a_iconst (pc := 22) (v := (-1)) dX11_row_22 (by decide) ?_
    exact a_iret (pc := 23) dX11_row_23 rfl (zf hz) (k0 (by first | (simp [c_4]; done) | (rw [c_4, c_13, decide_eq_false c_19]; rfl)) hC)
  · obtain ⟨n_dd, h_dd, rfl⟩ := inR_of (by decide) c_4
    have i_dd : iN (nI n_dd) = n_dd := iN_nI (by omega)
    refine a_iloadn_2 (pc := 7) dX11_row_7 ?_
    refine a_iconst (pc := 8) (v := nI 0) dX11_row_8 (by decide) ?_
    refine a_iconst (pc := 9) (v := nI 4) dX11_row_9 (by decide) ?_
    refine cs_X11_101 (pc := 10) rfl dX11_row_10 (Nat.le_of_ble_eq_true rfl) ?_
    refine x_within (by omega) hz ?_
    refine a_topi (bI (inR 0 (nI 4) s)) rfl ?_
    refine b_if_eq (pc := 13) (tgt := 22) dX11_row_13 (by decide) (fun c_13 => ?_) (fun c_13 => ?_)
    · refine a_iconst (pc := 22) (v := (-1)) dX11_row_22 (by decide) ?_
      exact a_iret (pc := 23) dX11_row_23 rfl (zf hz) (k0 (by first | (simp [c_4, i_dd, c_13]; done) | (rw [c_4, c_13, decide_eq_false c_19]; rfl)) hC)
    · obtain ⟨n_s, h_s, rfl⟩ := inR_of (by decide) c_13
      have i_s : iN (nI n_s) = n_s := iN_nI (by omega)
      refine a_iloadn_3 (pc := 16) dX11_row_16 ?_
      refine a_bipush (pc := 17) (v := nI 60) dX11_row_17 (by decide) ?_
      refine a_icmp_le (pc := 19) (tgt := 24) dX11_row_19 (by decide) (fun c_19 => ?_) (fun c_19 => ?_)
      · refine a_iloadn_3 (pc := 24) dX11_row_24 ?_
        refine a_if_ge (pc := 25) (tgt := 31) dX11_row_25 (by decide) (fun c_25 => ?_) (fun c_25 => ?_)
        · obtain ⟨m, hm31, rfl⟩ := nn_nI (fun q => absurd (Int32.lt_of_lt_of_le q c_25) Int32.lt_irrefl)
          have m60 : m ≤ 60 := (nI_leI (by omega) (by decide)).mp c_19
          refine a_aloadn_0 (pc := 31) dX11_row_31 ?_
          refine gf_X11_81 (pc := 32) rfl dX11_row_32 hC.c0 ?_
          refine a_iloadn_1 (pc := 35) dX11_row_35 ?_
          obtain ⟨sc, rw9, so, sz, el, S0, R0⟩ := hC.toQ (q := n_dd) (by omega)
          have hB := hC.2.1.2.2.2.1.1
          have hS := hC.2.1.2.2.2.1
          obtain ⟨hS1, hS2⟩ := hS
          refine sl_65 (j := n_dd) hC.c65 dX11_row_36 (by omega) ?_
          refine a_iloadn_2 (pc := 37) dX11_row_37 ?_
          refine a_iloadn_3 (pc := 38) dX11_row_38 ?_
          refine cv_X11_301 (pc := 39) rfl dX11_row_39 S0.2.2.1 (Nat.le_of_ble_eq_true rfl) ?_
          refine s_holdRow (by omega) hz S0 m60 (fun el2 hf0 h1 H1 => ?_)
          refine a_iconst (pc := 42) (v := nI 1) dX11_row_42 (by decide) ?_
          exact a_iret (pc := 43) dX11_row_43 rfl (zf hz) (k1 n_dd n_s m (by omega) rfl (by omega) rfl m60 rfl _ (fun f g1 g2 => COb.sh (q := n_dd) (sh := upd (gShelf b) n_dd (nI (50 + n_s))) (my := va_up (gMany b) n_dd m) (it := f) (by omega) H1 ⟨by omega, Or.inr ⟨rfl, updI_eq, up_eq.symm, fun j hj => (hf0 j hj).trans (g1 j hj).symm, fun _ j hj => (show BYt (f (60 * n_dd + j)) by rw [g1 j hj]; exact BYt_0)⟩⟩ (fun i hi hq => ⟨updI_ne hq, up_ne hq, fun j hj => g2 _ (by omega)⟩) ⟨hS1, fun q hq => (by
            show ((upd _ _ _ q = -1 ∧ va_up _ _ _ q = 0) ∨ (∃ n, n < gBodies b ∧ upd _ _ _ q = nI n ∧ va_up _ _ _ q = 0) ∨ (∃ s, s < 5 ∧ upd _ _ _ q = nI (50 + s))) ∧ va_up _ _ _ q ≤ 60
            by_cases e : q = n_dd
            · subst e; rw [updI_eq, up_eq]; exact ⟨Or.inr (Or.inr ⟨n_s, by omega, rfl⟩), by omega⟩
            · rw [updI_ne e, up_ne e]; exact hS2 q hq)⟩ hC))
        · refine a_bipush (pc := 28) (v := (-14)) dX11_row_28 (by decide) ?_
          exact a_iret (pc := 30) dX11_row_30 rfl (zf hz) (k2 (by rw [c_4, c_13, decide_eq_true c_19]; rfl) (Int32.not_le.mp c_25) hC)
      · refine a_iconst (pc := 22) (v := (-1)) dX11_row_22 (by decide) ?_
        exact a_iret (pc := 23) dX11_row_23 rfl (zf hz) (k0 (by first | (simp [c_4, i_dd, c_13, i_s, c_19]; done) | (rw [c_4, c_13, decide_eq_false c_19]; rfl)) hC)
