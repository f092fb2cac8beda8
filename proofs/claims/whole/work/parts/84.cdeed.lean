/-! THE CLASS: in deed -/
section CLs
variable {G : Cx} {y : MethodName} {cc : ByteArray} {mL : Nat} {rt : Option FieldType} {R : Room} {Z : List Frame → Array Value → State → State → Prop} {cn sn pc : Nat} {ls : List (Option Value)} {st : List Value} {h h0 : List va_E} {b : MB} {v : Cv} {F : Lf} {c : Nat}
theorem cl_led {j x : Nat} (H : COb G h0 h b v F c) (hd : decode cc pc = .ok (.iaload, 1)) (hj : j < 5) (e : gLedNow b j = x) (kk : AW G y cc mL rt R Z cn sn (pc + 1) ls (.int (nI x) :: st) h) : AW G y cc mL rt R Z cn sn pc ls (.int (nI j) :: .ref (gB G + 78) :: st) h := by
  subst e
  obtain ⟨l, h8, e8⟩ := H.c78
  refine b_iald j hd h8 rfl hj (by decide) ?_
  rw [e8 j hj]; exact kk
theorem cs_led {j x : Nat} (H : COb G h0 h b v F c) (hd : decode cc pc = .ok (.iastore, 1)) (hj : j < 5) (kk : ∀ h1, COb G h0 h1 (uLedNow b (va_up (gLedNow b) j x)) v F c → AW G y cc mL rt R Z cn sn (pc + 1) ls st h1) : AW G y cc mL rt R Z cn sn pc ls (.int (nI x) :: .int (nI j) :: .ref (gB G + 78) :: st) h := by
  obtain ⟨l, h8, e8⟩ := H.c78
  refine b_iast j hd h8 rfl hj (by decide) ?_
  refine a_h (congrArg (fun e => h.set 78 e) (show _ = (ints G 5 (va_up l j x) : va_E) from ?_)) (kk _ (COb.led rfl (fun i hi => by
    unfold va_up
    split
    · rfl
    · exact e8 i hi) H))
  exact congrArg (fun g : Nat → Int32 => (show va_E from .inl (gc G 0, 5, .inl g))) (upd_nI _ _ _)
theorem cl_wax {j : Nat} (H : COb G h0 h b v F c) (hd : decode cc pc = .ok (.iaload, 1)) (hj : j < 36) (kk : cW v j ≤ 99 → AW G y cc mL rt R Z cn sn (pc + 1) ls (.int (nI (cW v j)) :: st) h) : AW G y cc mL rt R Z cn sn pc ls (.int (nI j) :: .ref (gB G + 2) :: st) h :=
  b_iald j hd H.c1.2.1 rfl hj (by decide) (kk (H.ok.1 j))
end CLs
section CZs
variable {G : Cx} {d c : Nat} {h h0 : List va_E} {b : MB} {v : Cv} {F : Lf} {Q : Option Value → List va_E → Prop}
theorem z_setWax {r x : Nat} (hd : 2 ≤ d) (hz : gz G = false) (H : COb G h0 h b v F c) (hr : r < 36) (hx : x ≤ 99) (k : ∀ h1, COb G h0 h1 (uMay b (va_up (gMay b) r x)) (csW v r x) F c → Q none h1) : AM G yX0_setWax cX0_setWax 3 none d 0 0 [.ref (gB G + 1), .int (nI r), .int (nI x)] h Q :=
  x_setWax hd hz H.c1 hr hx (k _ (COb.city putC_len (fun k hk => putC_out (by omega)) (putC_at H.c1 (okC_W H.ok hr hx)) (BVb_tell (n := r) (w := 0) H.bv (Or.inl ⟨by omega, hr, by omega⟩) (fun q => by omega)) H))
theorem z_addWax {r x : Nat} (hd : 3 ≤ d) (hz : gz G = false) (H : COb G h0 h b v F c) (hr : r < 36) (hx : x < 1000) (k : ∀ h1, COb G h0 h1 (uMay b (va_up (gMay b) r (min 99 (cW v r + x)))) (csW v r (min 99 (cW v r + x))) F c → Q none h1) : AM G yX0_addWax cX0_addWax 3 none d 0 0 [.ref (gB G + 1), .int (nI r), .int (nI x)] h Q :=
  x_addWax hd hz H.c1 hr hx (k _ (COb.city putC_len (fun k hk => putC_out (by omega)) (putC_at H.c1 (okC_W H.ok hr (by omega))) (BVb_tell (n := r) (w := 0) H.bv (Or.inl ⟨by omega, hr, by omega⟩) (fun q => by omega)) H))
theorem WHx.le {n w wh : Nat} (h : WHx n w wh) : w ≤ 6 ∧ (w ≤ 3 → n < 36) := by
  rcases h with ⟨a1, a2, _⟩ | ⟨a1, a2, _⟩
  · exact ⟨by omega, fun _ => a2⟩
  · exact ⟨a2, fun q => by omega⟩
theorem z_tell {n w wh x : Nat} (hd : 3 ≤ d) (hz : gz G = false) (H : COb G h0 h b v F c) (hw : WHx n w wh) (hx : mayN w x) (k : ∀ h1, COb G h0 h1 (uMay b (va_up (gMay b) wh x)) (cTell v n w x) F c → Q none h1) : AM G yX0_tell cX0_tell 4 none d 0 0 [.ref (gB G + 1), .int (nI n), .int (nI w), .int (nI x)] h Q :=
  x_tell hd hz H.c1 hw.le.1 hw.le.2 hx (k _ (COb.city putC_len (fun k hk => putC_out (by omega)) (putC_at H.c1 (okC_tell H.ok hw.le.1 hw.le.2 hx)) (BVb_tell H.bv hw (fun q => (mayN_le hx hw.le.1).2.2.1 q)) H))
/-- what the numbers became need be told at their places only -/
theorem COb.mayc {f : Nat → Nat} (hf : ∀ i, i < 147 → f i = gMay b i) (H : COb G h0 h b v F c) : COb G h0 h (uMay b f) v F c := by
  obtain ⟨a, P, R⟩ := H
  exact ⟨a, ⟨P.1.congr hf, P.2⟩, R⟩
end CZs
theorem BVb_hour {b : MB} {v : Cv} {F : Lf} {f : Nat → Nat} (H : BVb (gMay b) v) (h1 : ∀ j, j < 36 → f j = hW v j) (h2 : ∀ j, j < 36 → f (108 + j) = (hK F v j).toNat) (h3 : f 146 = cT (chour F v)) (h4 : ∀ j, 36 ≤ j → ¬ (108 ≤ j ∧ j < 144) → j ≠ 146 → f j = gMay b j) : BVb f (chour F v) := by
  obtain ⟨a1, a2, a3, a4⟩ := H
  refine ⟨fun r hr => ⟨h1 r hr, h2 r hr, ?_, ?_⟩, ?_, ?_, h3⟩
  · rw [h4 _ (by omega) (by omega) (by omega)]; exact (a1 r hr).2.2.1
  · rw [h4 _ (by omega) (by omega) (by omega)]; exact (a1 r hr).2.2.2
  · rw [h4 _ (by omega) (by omega) (by omega)]; exact a2
  · rw [h4 _ (by omega) (by omega) (by omega)]; exact a3
def fH (b : MB) (F : Lf) (v : Cv) (j : Nat) : Nat := if j < 36 then hW v j else if 108 ≤ j ∧ j < 144 then (hK F v (j - 108)).toNat else if j = 146 then cT (chour F v) else gMay b j
theorem fH_ok {b : MB} {v : Cv} {F : Lf} : (∀ j, j < 36 → fH b F v j = hW v j) ∧ (∀ j, j < 36 → fH b F v (108 + j) = (hK F v j).toNat) ∧ fH b F v 146 = cT (chour F v) ∧ ∀ j, 36 ≤ j → ¬ (108 ≤ j ∧ j < 144) → j ≠ 146 → fH b F v j = gMay b j := by
  refine ⟨fun j hj => if_pos hj, fun j hj => ?_, ?_, fun j h1 h2 h3 => ?_⟩
  · unfold fH; rw [if_neg (by omega), if_pos (by omega), show 108 + j - 108 = j by omega]
  · unfold fH; rw [if_neg (by omega), if_neg (by omega), if_pos rfl]
  · unfold fH; rw [if_neg (by omega), if_neg h2, if_neg h3]
theorem fH_eq {b : MB} {v : Cv} {F : Lf} {f : Nat → Nat} (h1 : ∀ j, j < 36 → f j = hW v j) (h2 : ∀ j, j < 36 → f (108 + j) = (hK F v j).toNat) (h3 : f 146 = cT (chour F v)) (h4 : ∀ j, 36 ≤ j → ¬ (108 ≤ j ∧ j < 144) → j ≠ 146 → f j = gMay b j) (i : Nat) : f i = fH b F v i := by
  obtain ⟨g1, g2, g3, g4⟩ := fH_ok (b := b) (v := v) (F := F)
  by_cases e0 : i < 36
  · rw [h1 i e0, g1 i e0]
  by_cases e1 : 108 ≤ i ∧ i < 144
  · have a1 := h2 (i - 108) (by omega)
    have a2 := g2 (i - 108) (by omega)
    rw [show 108 + (i - 108) = i by omega] at a1 a2
    rw [a1, a2]
  by_cases e2 : i = 146
  · rw [e2, h3, g3]
  · rw [h4 i (by omega) e1 e2, g4 i (by omega) e1 e2]
theorem bsum_hl (F : Lf) (v : Cv) (p : Nat → Bool) : ∀ n, bsum (hloop F v 36) p n = bsum v p n
  | 0 => rfl
  | n + 1 => by
    rw [bsum, bsum, bsum_hl F v p n]
    rfl
theorem ctn_36 (p : Nat → Bool) : ctn (fun i => decide (i < 36) && p i) 36 = ctn p 36 := ctn_congr (fun k hk => by rw [decide_eq_true hk]; rfl)
set_option maxRecDepth 100000 in
set_option maxHeartbeats 4000000 in
theorem p_blow {G : Cx} {d c : Nat} {h h0 : List va_E} {b : MB} {v : Cv} {F : Lf} {Q : Option Value → List va_E → Prop} (hd : 6 ≤ d) (hz : gz G = false) (hC : COb G h0 h b v F c) {r : Int32} (k0 : inR 0 (nI 35) r = false → COb G h0 h b v F c → Q (some (.int (-1))) h) (k1 : ∀ n, n < 36 → r = nI n → ∀ h1 v1, COb G h0 h1 (uMay b (va_up (gMay b) n 0)) v1 F c → Q (some (.int (nI (cW v n)))) h1) : AM G yX11_blow cX11_blow 3 (some .int) d 0 0 [.ref (gB G + 0), .int (r)] h Q := by
  obtain ⟨d, rfl, he⟩ := dpos hd
  refine AM.of [some (.ref (gB G + 0)), some (.int (r)), none] pnX11 (Nat.le_of_ble_eq_true rfl) (by simp [lsub, lvI, Value.category]) ?_
  refine a_iloadn_1 (pc := 0) dX11_blow_0 ?_
  refine cs_X11_140 (pc := 1) rfl dX11_blow_1 (Nat.le_of_ble_eq_true rfl) ?_
  refine p_isRoom (by omega) hz ?_
  refine b_if_ne (pc := 4) (tgt := 9) dX11_blow_4 (by decide) (fun c_4 => ?_) (fun c_4 => ?_)
  · obtain ⟨n_r, h_r, rfl⟩ := inR_of (by decide) c_4
    have i_r : iN (nI n_r) = n_r := iN_nI (by omega)
    refine a_aloadn_0 (pc := 9) dX11_blow_9 ?_
    refine gf_X11_12 (pc := 10) rfl dX11_blow_10 hC.c0 ?_
    refine gf_X11_266 (pc := 13) rfl dX11_blow_13 hC.c1.1 ?_
    refine a_iloadn_1 (pc := 16) dX11_blow_16 ?_
    refine cl_wax (j := n_r) hC dX11_blow_17 (by omega) (fun w9_17 => ?_)
    refine a_istoren_2 (pc := 18) dX11_blow_18 (by decide) (by first | rfl | trivial) ?_
    refine a_aloadn_0 (pc := 19) dX11_blow_19 ?_
    refine gf_X11_12 (pc := 20) rfl dX11_blow_20 hC.c0 ?_
    refine a_iloadn_1 (pc := 23) dX11_blow_23 ?_
    refine a_iconst (pc := 24) (v := nI 0) dX11_blow_24 (by decide) ?_
    refine cv_X11_269 (pc := 25) rfl dX11_blow_25 hC.c1.1 (Nat.le_of_ble_eq_true rfl) ?_
    refine z_setWax (by omega) hz hC (by omega) (by omega) (fun h1 hC1 => ?_)
    refine a_iloadn_2 (pc := 28) dX11_blow_28 ?_
    exact a_iret (pc := 29) dX11_blow_29 rfl (zf hz) (k1 n_r (by omega) rfl _ _ hC1)
  · refine a_iconst (pc := 7) (v := (-1)) dX11_blow_7 (by decide) ?_
    exact a_iret (pc := 8) dX11_blow_8 rfl (zf hz) (k0 c_4 hC)
set_option maxRecDepth 100000 in
set_option maxHeartbeats 4000000 in
theorem p_stub {G : Cx} {d c : Nat} {h h0 : List va_E} {b : MB} {v : Cv} {F : Lf} {Q : Option Value → List va_E → Prop} (hd : 6 ≤ d) (hz : gz G = false) (hC : COb G h0 h b v F c) {r w : Int32} (k0 : (inR 0 (nI 35) r && inR (nI 1) (nI 99) w) = false → COb G h0 h b v F c → Q (some (.int (-1))) h) (k2 : ∀ n m, n < 36 → r = nI n → w = nI m → 1 ≤ m → m ≤ 99 → cK v n = true → COb G h0 h b v F c → Q (some (.int (-5))) h) (k1 : ∀ n m, n < 36 → r = nI n → w = nI m → 1 ≤ m → m ≤ 99 → cK v n = false → ∀ h1 v1, COb G h0 h1 (uLedNow (uMay b (va_up (gMay b) n (min 99 (cW v n + m)))) (va_up (gLedNow b) 4 (gLedNow b 4 + 1))) v1 F c → Q (some (.int (nI (min 99 (cW v n + m))))) h1) : AM G yX11_stub cX11_stub 3 (some .int) d 0 0 [.ref (gB G + 0), .int (r), .int (w)] h Q := by
  obtain ⟨d, rfl, he⟩ := dpos hd
  refine AM.of [some (.ref (gB G + 0)), some (.int (r)), some (.int (w))] pnX11 (Nat.le_of_ble_eq_true rfl) (by simp [lsub, lvI, Value.category]) ?_
  refine a_iloadn_1 (pc := 0) dX11_stub_0 ?_
  refine cs_X11_140 (pc := 1) rfl dX11_stub_1 (Nat.le_of_ble_eq_true rfl) ?_
  refine p_isRoom (by omega) hz ?_
  refine b_if_eq (pc := 4) (tgt := 17) dX11_stub_4 (by decide) (fun c_4 => ?_) (fun c_4 => ?_)
  · refine a_iconst (pc := 17) (v := (-1)) dX11_stub_17 (by decide) ?_
    exact a_iret (pc := 18) dX11_stub_18 rfl (zf hz) (k0 (by simp [c_4]) hC)
  · obtain ⟨n_r, h_r, rfl⟩ := inR_of (by decide) c_4
    have i_r : iN (nI n_r) = n_r := iN_nI (by omega)
    refine a_iloadn_2 (pc := 7) dX11_stub_7 ?_
    refine a_iconst (pc := 8) (v := nI 1) dX11_stub_8 (by decide) ?_
    refine a_bipush (pc := 9) (v := nI 99) dX11_stub_9 (by decide) ?_
    refine cs_X11_101 (pc := 11) rfl dX11_stub_11 (Nat.le_of_ble_eq_true rfl) ?_
    refine x_within (by omega) hz ?_
    refine a_topi (bI (inR (nI 1) (nI 99) w)) rfl ?_
    refine b_if_ne (pc := 14) (tgt := 19) dX11_stub_14 (by decide) (fun c_14 => ?_) (fun c_14 => ?_)
    · obtain ⟨n_w, h0_w, h_w, rfl⟩ := inR_1 (by decide) (by decide) c_14
      have i_w : iN (nI n_w) = n_w := iN_nI (by omega)
      refine a_aloadn_0 (pc := 19) dX11_stub_19 ?_
      refine gf_X11_12 (pc := 20) rfl dX11_stub_20 hC.c0 ?_
      refine a_iloadn_1 (pc := 23) dX11_stub_23 ?_
      refine cv_X11_260 (pc := 24) rfl dX11_stub_24 hC.c1.1 (Nat.le_of_ble_eq_true rfl) ?_
      refine x_isDark (by omega) hz hC.c1 (by omega) ?_
      refine b_if_eq (pc := 27) (tgt := 33) dX11_stub_27 (by decide) (fun c_27 => ?_) (fun c_27 => ?_)
      · refine a_aloadn_0 (pc := 33) dX11_stub_33 ?_
        refine gf_X11_12 (pc := 34) rfl dX11_stub_34 hC.c0 ?_
        refine a_iloadn_1 (pc := 37) dX11_stub_37 ?_
        refine a_iloadn_2 (pc := 38) dX11_stub_38 ?_
        refine cv_X11_263 (pc := 39) rfl dX11_stub_39 hC.c1.1 (Nat.le_of_ble_eq_true rfl) ?_
        refine z_addWax (by omega) hz hC (by omega) (by omega) (fun h1 hC1 => ?_)
        refine a_aloadn_0 (pc := 42) dX11_stub_42 ?_
        refine gf_X11_86 (pc := 43) rfl dX11_stub_43 hC1.c0 ?_
        refine a_iconst (pc := 46) (v := nI 4) dX11_stub_46 (by decide) ?_
        refine a_dup2 (pc := 47) dX11_stub_47 rfl rfl ?_
        refine cl_led (j := 4) (x := gLedNow ((uMay b (va_up (gMay b) n_r (min 99 (cW v n_r + n_w))))) 4) hC1 dX11_stub_48 (by omega) rfl ?_
        refine a_iconst (pc := 49) (v := nI 1) dX11_stub_49 (by decide) ?_
        refine n_iadd dX11_stub_50 ?_
        refine cs_led (j := 4) (x := gLedNow ((uMay b (va_up (gMay b) n_r (min 99 (cW v n_r + n_w))))) 4 + 1) hC1 dX11_stub_51 (by omega) (fun h2 hC2 => ?_)
        refine a_aloadn_0 (pc := 52) dX11_stub_52 ?_
        refine gf_X11_12 (pc := 53) rfl dX11_stub_53 hC2.c0 ?_
        refine gf_X11_266 (pc := 56) rfl dX11_stub_56 hC2.c1.1 ?_
        refine a_iloadn_1 (pc := 59) dX11_stub_59 ?_
        refine cl_wax (j := n_r) hC2 dX11_stub_60 (by omega) (fun w9_60 => ?_)
        refine a_topi (nI (min 99 (cW v n_r + n_w))) (congrArg nI up_eq) ?_
        exact a_iret (pc := 61) dX11_stub_61 rfl (zf hz) (k1 n_r n_w (by omega) rfl rfl (by omega) (by omega) c_27 _ _ hC2)
      · refine a_bipush (pc := 30) (v := (-5)) dX11_stub_30 (by decide) ?_
        exact a_iret (pc := 32) dX11_stub_32 rfl (zf hz) (k2 n_r n_w (by omega) rfl rfl (by omega) (by omega) c_27 hC)
    · refine a_iconst (pc := 17) (v := (-1)) dX11_stub_17 (by decide) ?_
      exact a_iret (pc := 18) dX11_stub_18 rfl (zf hz) (k0 (by simp [c_4, i_r, c_14]) hC)
set_option maxRecDepth 100000 in
set_option maxHeartbeats 4000000 in
theorem p_song {G : Cx} {d c : Nat} {h h0 : List va_E} {b : MB} {v : Cv} {F : Lf} {Q : Option Value → List va_E → Prop} (hd : 6 ≤ d) (hz : gz G = false) (hC : COb G h0 h b v F c) {r : Int32} (k0 : inR 0 (nI 35) r = false → COb G h0 h b v F c → Q (some (.int (-1))) h) (k2 : ∀ n, n < 36 → r = nI n → cK v n = false → COb G h0 h b v F c → Q (some (.int (-5))) h) (k1 : ∀ n, n < 36 → r = nI n → cK v n = true → ∀ h1 v1, COb G h0 h1 (uLedNow (uMay b (va_up (va_up (gMay b) (108 + n) 0) n 0)) (va_up (gLedNow b) 2 (gLedNow b 2 + 1))) v1 F c → Q (some (.int (nI 1))) h1) : AM G yX11_song cX11_song 2 (some .int) d 0 0 [.ref (gB G + 0), .int (r)] h Q := by
  obtain ⟨d, rfl, he⟩ := dpos hd
  refine AM.of [some (.ref (gB G + 0)), some (.int (r))] pnX11 (Nat.le_of_ble_eq_true rfl) (by simp [lsub, lvI, Value.category]) ?_
  refine a_iloadn_1 (pc := 0) dX11_song_0 ?_
  refine cs_X11_140 (pc := 1) rfl dX11_song_1 (Nat.le_of_ble_eq_true rfl) ?_
  refine p_isRoom (by omega) hz ?_
  refine b_if_ne (pc := 4) (tgt := 9) dX11_song_4 (by decide) (fun c_4 => ?_) (fun c_4 => ?_)
  · obtain ⟨n_r, h_r, rfl⟩ := inR_of (by decide) c_4
    have i_r : iN (nI n_r) = n_r := iN_nI (by omega)
    refine a_aloadn_0 (pc := 9) dX11_song_9 ?_
    refine gf_X11_12 (pc := 10) rfl dX11_song_10 hC.c0 ?_
    refine a_iloadn_1 (pc := 13) dX11_song_13 ?_
    refine cv_X11_260 (pc := 14) rfl dX11_song_14 hC.c1.1 (Nat.le_of_ble_eq_true rfl) ?_
    refine x_isDark (by omega) hz hC.c1 (by omega) ?_
    refine b_if_ne (pc := 17) (tgt := 23) dX11_song_17 (by decide) (fun c_17 => ?_) (fun c_17 => ?_)
    · refine a_aloadn_0 (pc := 23) dX11_song_23 ?_
      refine gf_X11_12 (pc := 24) rfl dX11_song_24 hC.c0 ?_
      refine a_iloadn_1 (pc := 27) dX11_song_27 ?_
      refine a_iconst (pc := 28) (v := nI 3) dX11_song_28 (by decide) ?_
      refine a_iconst (pc := 29) (v := nI 0) dX11_song_29 (by decide) ?_
      refine cv_X11_132 (pc := 30) rfl dX11_song_30 hC.c1.1 (Nat.le_of_ble_eq_true rfl) ?_
      refine z_tell (by omega) hz hC (wh := 108 + n_r) (Or.inl ⟨by omega, by omega, by omega⟩) ⟨by decide, by decide, by decide⟩ (fun h1 hC1 => ?_)
      refine a_aloadn_0 (pc := 33) dX11_song_33 ?_
      refine gf_X11_12 (pc := 34) rfl dX11_song_34 hC1.c0 ?_
      refine a_iloadn_1 (pc := 37) dX11_song_37 ?_
      refine a_iconst (pc := 38) (v := nI 0) dX11_song_38 (by decide) ?_
      refine cv_X11_269 (pc := 39) rfl dX11_song_39 hC1.c1.1 (Nat.le_of_ble_eq_true rfl) ?_
      refine z_setWax (by omega) hz hC1 (by omega) (by omega) (fun h2 hC2 => ?_)
      refine a_aloadn_0 (pc := 42) dX11_song_42 ?_
      refine gf_X11_86 (pc := 43) rfl dX11_song_43 hC2.c0 ?_
      refine a_iconst (pc := 46) (v := nI 2) dX11_song_46 (by decide) ?_
      refine a_dup2 (pc := 47) dX11_song_47 rfl rfl ?_
      refine cl_led (j := 2) (x := gLedNow ((uMay (uMay b (va_up (gMay b) (108 + n_r) 0)) (va_up (gMay (uMay b (va_up (gMay b) (108 + n_r) 0))) n_r 0))) 2) hC2 dX11_song_48 (by omega) rfl ?_
      refine a_iconst (pc := 49) (v := nI 1) dX11_song_49 (by decide) ?_
      refine n_iadd dX11_song_50 ?_
      refine cs_led (j := 2) (x := gLedNow ((uMay (uMay b (va_up (gMay b) (108 + n_r) 0)) (va_up (gMay (uMay b (va_up (gMay b) (108 + n_r) 0))) n_r 0))) 2 + 1) hC2 dX11_song_51 (by omega) (fun h3 hC3 => ?_)
      refine a_iconst (pc := 52) (v := nI 1) dX11_song_52 (by decide) ?_
      exact a_iret (pc := 53) dX11_song_53 rfl (zf hz) (k1 n_r (by omega) rfl c_17 _ _ hC3)
    · refine a_bipush (pc := 20) (v := (-5)) dX11_song_20 (by decide) ?_
      exact a_iret (pc := 22) dX11_song_22 rfl (zf hz) (k2 n_r (by omega) rfl c_17 hC)
  · refine a_iconst (pc := 7) (v := (-1)) dX11_song_7 (by decide) ?_
    exact a_iret (pc := 8) dX11_song_8 rfl (zf hz) (k0 c_4 hC)
set_option maxRecDepth 100000 in
set_option maxHeartbeats 4000000 in
theorem p_led {G : Cx} {d c : Nat} {h h0 : List va_E} {b : MB} {v : Cv} {F : Lf} {Q : Option Value → List va_E → Prop} (hd : 4 ≤ d) (hz : gz G = false) (hC : COb G h0 h b v F c) {w : Int32} (k : ∀ y, y = (if inR 0 (nI 4) w = true then nI (gLedNow b (iN w)) else -1) → COb G h0 h b v F c → Q (some (.int y)) h) : AM G yX11_led cX11_led 2 (some .int) d 0 0 [.ref (gB G + 0), .int (w)] h Q := by
  obtain ⟨d, rfl, he⟩ := dpos hd
  refine AM.of [some (.ref (gB G + 0)), some (.int (w))] pnX11 (Nat.le_of_ble_eq_true rfl) (by simp [lsub, lvI, Value.category]) ?_
  refine a_iloadn_1 (pc := 0) dX11_led_0 ?_
  refine a_iconst (pc := 1) (v := nI 0) dX11_led_1 (by decide) ?_
  refine a_iconst (pc := 2) (v := nI 4) dX11_led_2 (by decide) ?_
  refine cs_X11_101 (pc := 3) rfl dX11_led_3 (Nat.le_of_ble_eq_true rfl) ?_
  refine x_within (by omega) hz ?_
  refine a_topi (bI (inR 0 (nI 4) w)) rfl ?_
  refine b_if_eq (pc := 6) (tgt := 18) dX11_led_6 (by decide) (fun c_6 => ?_) (fun c_6 => ?_)
  · refine a_iconst (pc := 18) (v := (-1)) dX11_led_18 (by decide) ?_
    exact a_iret (pc := 19) dX11_led_19 rfl (zf hz) (k _ (by simp [c_6]) hC)
  · obtain ⟨n_w, h_w, rfl⟩ := inR_of (by decide) c_6
    have i_w : iN (nI n_w) = n_w := iN_nI (by omega)
    refine a_aloadn_0 (pc := 9) dX11_led_9 ?_
    refine gf_X11_86 (pc := 10) rfl dX11_led_10 hC.c0 ?_
    refine a_iloadn_1 (pc := 13) dX11_led_13 ?_
    refine cl_led (j := n_w) (x := gLedNow b n_w) hC dX11_led_14 (by omega) rfl ?_
    refine a_goto (pc := 15) (tgt := 19) dX11_led_15 (by decide) ?_
    exact a_iret (pc := 19) dX11_led_19 rfl (zf hz) (k _ (by simp [c_6, i_w]) hC)
set_option maxRecDepth 100000 in
set_option maxHeartbeats 4000000 in
theorem p_hour {G : Cx} {d c : Nat} {h h0 : List va_E} {b : MB} {v : Cv} {F : Lf} {Q : Option Value → List va_E → Prop} (hd : 8 ≤ d) (hz : gz G = false) (hC : COb G h0 h b v F c) (k : ∀ h1, (∀ f : Nat → Nat, (∀ j, j < 36 → f j = hW v j) → (∀ j, j < 36 → f (108 + j) = (hK F v j).toNat) → f 146 = cT (chour F v) → (∀ j, 36 ≤ j → ¬ (108 ≤ j ∧ j < 144) → j ≠ 146 → f j = gMay b j) → COb G h0 h1 (uLedNow (uMay b f) (ledH b F v)) (chour F v) F c) → Q (some (.int (nI (ctn (hK F v) 36)))) h1) : AM G yX11_hour cX11_hour 1 (some .int) d 0 0 [.ref (gB G + 0)] h Q := by
  obtain ⟨d, rfl, he⟩ := dpos hd
  refine AM.of [some (.ref (gB G + 0))] pnX11 (Nat.le_of_ble_eq_true rfl) (by simp [lsub, lvI, Value.category]) ?_
  refine a_aloadn_0 (pc := 0) dX11_hour_0 ?_
  refine gf_X11_12 (pc := 1) rfl dX11_hour_1 hC.c0 ?_
  refine a_aloadn_0 (pc := 4) dX11_hour_4 ?_
  refine gf_X11_22 (pc := 5) rfl dX11_hour_5 hC.c0 ?_
  refine cv_X11_241 (pc := 8) rfl dX11_hour_8 hC.c1.1 (Nat.le_of_ble_eq_true rfl) ?_
  refine y_passHour (by omega) hz (h0 := h) (v := v) (F := F) ⟨by omega, HX.rfl' 1 h, hC.c1, LR.ok hC.c3⟩ (fun h1 C1 => ?_)
  obtain ⟨g1, g2, g3, g4⟩ := fH_ok (b := b) (v := v) (F := F)
  have hC1 := COb.hour C1 (BVb_hour hC.bv g1 g2 g3 g4) hC
  refine a_aloadn_0 (pc := 11) dX11_hour_11 ?_
  refine gf_X11_86 (pc := 12) rfl dX11_hour_12 hC1.c0 ?_
  refine a_iconst (pc := 15) (v := nI 0) dX11_hour_15 (by decide) ?_
  refine a_dup2 (pc := 16) dX11_hour_16 rfl rfl ?_
  refine cl_led (j := 0) (x := gLedNow b 0) hC1 dX11_hour_17 (by omega) rfl ?_
  refine a_iconst (pc := 18) (v := nI 1) dX11_hour_18 (by decide) ?_
  refine n_iadd dX11_hour_19 ?_
  refine cs_led (j := 0) (x := gLedNow b 0 + 1) hC1 dX11_hour_20 (by omega) (fun h2 hC2 => ?_)
  refine a_aloadn_0 (pc := 21) dX11_hour_21 ?_
  refine gf_X11_86 (pc := 22) rfl dX11_hour_22 hC2.c0 ?_
  refine a_iconst (pc := 25) (v := nI 1) dX11_hour_25 (by decide) ?_
  refine a_dup2 (pc := 26) dX11_hour_26 rfl rfl ?_
  refine cl_led (j := 1) (x := gLedNow b 1) hC2 dX11_hour_27 (by omega) (by rfl) ?_
  refine a_aloadn_0 (pc := 28) dX11_hour_28 ?_
  refine gf_X11_12 (pc := 29) rfl dX11_hour_29 hC2.c0 ?_
  refine gf_X11_245 (pc := 32) rfl dX11_hour_32 hC2.c1.1 ?_
  refine cs_X11_248 (pc := 35) rfl dX11_hour_35 (Nat.le_of_ble_eq_true rfl) ?_
  refine x_bitCount (by omega) hz ?_
  refine a_topi (nI (ctn (hfell F v) 36)) (congrArg nI ((ct_bL _).trans (ctn_36 _))) ?_
  refine n_iadd dX11_hour_38 ?_
  refine cs_led (j := 1) (x := gLedNow b 1 + (ctn (hfell F v) 36)) hC2 dX11_hour_39 (by omega) (fun h3 hC3 => ?_)
  refine a_aloadn_0 (pc := 40) dX11_hour_40 ?_
  refine gf_X11_86 (pc := 41) rfl dX11_hour_41 hC3.c0 ?_
  refine a_iconst (pc := 44) (v := nI 2) dX11_hour_44 (by decide) ?_
  refine a_dup2 (pc := 45) dX11_hour_45 rfl rfl ?_
  refine cl_led (j := 2) (x := gLedNow b 2) hC3 dX11_hour_46 (by omega) (by rfl) ?_
  refine a_aloadn_0 (pc := 47) dX11_hour_47 ?_
  refine gf_X11_12 (pc := 48) rfl dX11_hour_48 hC3.c0 ?_
  refine gf_X11_254 (pc := 51) rfl dX11_hour_51 hC3.c1.1 ?_
  refine cs_X11_248 (pc := 54) rfl dX11_hour_54 (Nat.le_of_ble_eq_true rfl) ?_
  refine x_bitCount (by omega) hz ?_
  refine a_topi (nI (ctn (hgot v) 36)) (congrArg nI ((ct_bL _).trans (ctn_36 _))) ?_
  refine n_iadd dX11_hour_57 ?_
  refine cs_led (j := 2) (x := gLedNow b 2 + (ctn (hgot v) 36)) hC3 dX11_hour_58 (by omega) (fun h4 hC4 => ?_)
  refine a_aloadn_0 (pc := 59) dX11_hour_59 ?_
  refine gf_X11_86 (pc := 60) rfl dX11_hour_60 hC4.c0 ?_
  refine a_iconst (pc := 63) (v := nI 3) dX11_hour_63 (by decide) ?_
  refine a_dup2 (pc := 64) dX11_hour_64 rfl rfl ?_
  refine cl_led (j := 3) (x := gLedNow b 3) hC4 dX11_hour_65 (by omega) (by rfl) ?_
  refine a_aloadn_0 (pc := 66) dX11_hour_66 ?_
  refine gf_X11_12 (pc := 67) rfl dX11_hour_67 hC4.c0 ?_
  refine gf_X11_257 (pc := 70) rfl dX11_hour_70 hC4.c1.1 ?_
  refine a_topi (nI (bsum v (clit v) 36)) (by rw [← bsum_hl F v (clit v) 36]; exact congrArg nI (Nat.zero_add _)) ?_
  refine n_iadd dX11_hour_73 ?_
  refine cs_led (j := 3) (x := gLedNow b 3 + (bsum v (clit v) 36)) hC4 dX11_hour_74 (by omega) (fun h5 hC5 => ?_)
  refine a_aloadn_0 (pc := 75) dX11_hour_75 ?_
  refine gf_X11_12 (pc := 76) rfl dX11_hour_76 hC5.c0 ?_
  refine cv_X11_168 (pc := 79) rfl dX11_hour_79 hC5.c1.1 (Nat.le_of_ble_eq_true rfl) ?_
  refine x_darkCount (by omega) hz hC5.c1 ?_
  exact a_iret (pc := 82) dX11_hour_82 rfl (zf hz) (k _ (fun f f1 f2 f3 f4 => COb.mayc (f := f) (fun i _ => fH_eq f1 f2 f3 f4 i) hC5))
theorem cpy_5 (a b : Nat → Nat) : va_cpy (fun j => nI (a j)) (fun j => nI (b j)) 0 0 5 = fun j => nI (cpn 5 a b j) := by
  funext j
  unfold va_cpy cpn
  by_cases q : j < 5
  · rw [if_pos ⟨Nat.zero_le _, by omega⟩, if_pos q]; simp
  · rw [if_neg (fun z => q (by omega)), if_neg q]
