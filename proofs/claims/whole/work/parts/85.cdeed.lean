/-! THE CLASS: image, back, undo, redo -/
theorem COb.img {G : Cx} {h h1 h0 : List va_E} {b : MB} {v : Cv} {F : Lf} {c : Nat} {kw : Cv} {l kg f g : Nat → Nat} (e1 : h1 = (((putC G h 4 (clay kw v)).set 79 (ints G 5 (cpn 5 l kg))).set 0 (mainO G true))) (hkw : cityAt G h 4 kw) (hl : ∀ j, j < 5 → l j = gLedNow b j) (h79 : h[79]? = some (ints G 5 kg)) (hf : ∀ j, j < 147 → f j = gMay b j) (hg : ∀ j, j < 5 → g j = gLedNow b j) (H : COb G h0 h b v F c) : COb G h0 h1 (uImageLed (uImageMay (uIsKept b true) f) g) v F c := by
  obtain ⟨⟨le0, f0⟩, P, q0, q1, q2, q3, q4, q5, q6, q7, q8, q9, q10, q11⟩ := H
  subst e1
  have hl9 : (((putC G h 4 (clay kw v)).set 79 (ints G 5 (cpn 5 l kg))).set 0 (mainO G true)).length = h.length := by rw [List.length_set, List.length_set, putC_len]
  have e : ∀ k, k ≠ 0 → (k < 4 ∨ 6 < k) → k ≠ 79 → (((putC G h 4 (clay kw v)).set 79 (ints G 5 (cpn 5 l kg))).set 0 (mainO G true))[k]? = h[k]? := fun k a1 a2 a3 => hs_ne (fun q => a1 q.symm) (hs_ne (fun q => a3 q.symm) (putC_out (by omega)))
  have ok := okC_lay hkw.2.2.2 (show okC v from q1.2.2.2)
  have k4 : cityAt G (((putC G h 4 (clay kw v)).set 79 (ints G 5 (cpn 5 l kg))).set 0 (mainO G true)) 4 (clay kw v) := cityAt_of (fun k hk => hs_ne (by omega) (hs_ne (by omega) rfl)) (putC_at hkw ok)
  obtain ⟨z1, z2, z3, z4⟩ := P.1
  have k2 : ci2 G (((putC G h 4 (clay kw v)).set 79 (ints G 5 (cpn 5 l kg))).set 0 (mainO G true)) (uImageLed (uImageMay (uIsKept b true) f) g) := ⟨_, k4, fun _ => ⟨fun r hr => ⟨(hf _ (by omega)).trans (z1 r hr).1, (hf _ (by omega)).trans (z1 r hr).2.1⟩, (hf _ (by omega)).trans z4⟩⟩
  have k11 : ci11 G (((putC G h 4 (clay kw v)).set 79 (ints G 5 (cpn 5 l kg))).set 0 (mainO G true)) (uImageLed (uImageMay (uIsKept b true) f) g) := by
    obtain ⟨⟨l1, w1, w2⟩, _⟩ := q11
    exact ⟨⟨l1, (e 78 (by omega) (by omega) (by omega)).trans w1, w2⟩, cpn 5 l kg, hs_ne (by omega) (hs_eq ((putC_out (by omega)).trans h79)), fun _ j hj => by rw [cpn, if_pos hj, hl j hj]; exact (hg j hj).symm⟩
  exact ⟨⟨hl9.trans le0, fun k hk => (e k (by omega) (by omega) (by omega)).trans (f0 k hk)⟩, P, hs_eq (hs_ne (by omega) ((putC_out (by omega)).trans q0)), q1.mv (fun k a1 a2 => e k (by omega) (by omega) (by omega)), k2, q3.mv (fun k a1 a2 => e k (by omega) (by omega) (by omega)), q4.mv (fun k a1 a2 => e k (by omega) (by omega) (by omega)), q5.mv (fun k a1 a2 => e k (by omega) (by omega) (by omega)), q6.mv (fun k a1 a2 => e k (by omega) (by omega) (by omega)), q7.mv (fun k a1 a2 => e k (by omega) (by omega) (by omega)), q8.mv (fun k a1 a2 => e k (by omega) (by omega) (by omega)), q9.mv (fun k a1 a2 => e k (by omega) (by omega) (by omega)), q10.mv (fun k a1 a2 => e k (by omega) (by omega) (by omega)), k11⟩
theorem COb.bck {G : Cx} {h h1 h0 : List va_E} {b : MB} {v : Cv} {F : Lf} {c : Nat} {kw : Cv} {l kg f g : Nat → Nat} (e1 : h1 = ((putC G h 1 (clay v kw)).set 78 (ints G 5 (cpn 5 kg l)))) (hkw : cityAt G h 4 kw) (hik : (∀ r, r < 36 → gImageMay b r = cW kw r ∧ gImageMay b (108 + r) = (cK kw r).toNat) ∧ gImageMay b 146 = cT kw) (h78 : h[78]? = some (ints G 5 l)) (hgk : ∀ j, j < 5 → kg j = gImageLed b j) (f1 : ∀ j, j < 36 → f j = gImageMay b j) (f2 : ∀ j, j < 36 → f (108 + j) = gImageMay b (108 + j)) (f3 : f 146 = gImageMay b 146) (f4 : ∀ j, 36 ≤ j → ¬ (108 ≤ j ∧ j < 144) → j ≠ 146 → f j = gMay b j) (hg : ∀ j, j < 5 → g j = gImageLed b j) (H : COb G h0 h b v F c) : COb G h0 h1 (uLedNow (uMay b f) g) (clay v kw) F c := by
  obtain ⟨⟨le0, f0⟩, P, q0, q1, q2, q3, q4, q5, q6, q7, q8, q9, q10, q11⟩ := H
  subst e1
  have hl9 : ((putC G h 1 (clay v kw)).set 78 (ints G 5 (cpn 5 kg l))).length = h.length := by rw [List.length_set, putC_len]
  have e : ∀ k, (k < 1 ∨ 3 < k) → k ≠ 78 → ((putC G h 1 (clay v kw)).set 78 (ints G 5 (cpn 5 kg l)))[k]? = h[k]? := fun k a2 a3 => hs_ne (fun q => a3 q.symm) (putC_out (by omega))
  have ok := okC_lay (show okC v from q1.2.2.2) hkw.2.2.2
  have k1 : cityAt G ((putC G h 1 (clay v kw)).set 78 (ints G 5 (cpn 5 kg l))) 1 (clay v kw) := cityAt_of (fun k hk => hs_ne (by omega) rfl) (putC_at q1 ok)
  obtain ⟨z1, z2, z3, z4⟩ := P.1
  have hbv : BVb f (clay v kw) := ⟨fun r hr => ⟨(f1 r hr).trans (hik.1 r hr).1, (f2 r hr).trans (hik.1 r hr).2, (f4 _ (by omega) (by omega) (by omega)).trans (z1 r hr).2.2.1, (f4 _ (by omega) (by omega) (by omega)).trans (z1 r hr).2.2.2⟩, (f4 _ (by omega) (by omega) (by omega)).trans z2, (f4 _ (by omega) (by omega) (by omega)).trans z3, f3.trans hik.2⟩
  have k11 : ci11 G ((putC G h 1 (clay v kw)).set 78 (ints G 5 (cpn 5 kg l))) (uLedNow (uMay b f) g) := by
    obtain ⟨_, g2, w1, w2⟩ := q11
    exact ⟨⟨cpn 5 kg l, hs_eq ((putC_out (by omega)).trans h78), fun j hj => by rw [cpn, if_pos hj, hgk j hj]; exact (hg j hj).symm⟩, g2, hs_ne (by omega) ((putC_out (by omega)).trans w1), w2⟩
  exact ⟨⟨hl9.trans le0, fun k hk => (e k (by omega) (by omega)).trans (f0 k hk)⟩, ⟨hbv, P.2⟩, q0.mv (e 0 (by omega) (by omega)), k1, q2.mv (fun k a1 a2 => e k (by omega) (by omega)), q3.mv (fun k a1 a2 => e k (by omega) (by omega)), q4.mv (fun k a1 a2 => e k (by omega) (by omega)), q5.mv (fun k a1 a2 => e k (by omega) (by omega)), q6.mv (fun k a1 a2 => e k (by omega) (by omega)), q7.mv (fun k a1 a2 => e k (by omega) (by omega)), q8.mv (fun k a1 a2 => e k (by omega) (by omega)), q9.mv (fun k a1 a2 => e k (by omega) (by omega)), q10.mv (fun k a1 a2 => e k (by omega) (by omega)), k11⟩
theorem COb.c2 {G : Cx} {h h0 : List va_E} {b : MB} {v : Cv} {F : Lf} {c : Nat} (H : COb G h0 h b v F c) : ci2 G h b := H.2.2.2.2.1
theorem COb.c11 {G : Cx} {h h0 : List va_E} {b : MB} {v : Cv} {F : Lf} {c : Nat} (H : COb G h0 h b v F c) : ci11 G h b := H.2.2.2.2.2.2.2.2.2.2.2.2.2
set_option maxRecDepth 100000 in
set_option maxHeartbeats 4000000 in
theorem p_image {G : Cx} {d c : Nat} {h h0 : List va_E} {b : MB} {v : Cv} {F : Lf} {Q : Option Value → List va_E → Prop} (hd : 4 ≤ d) (hz : gz G = false) (hC : COb G h0 h b v F c) (k : ∀ h1, (∀ f g : Nat → Nat, (∀ j, j < 147 → f j = gMay b j) → (∀ j, j < 5 → g j = gLedNow b j) → COb G h0 h1 (uImageLed (uImageMay (uIsKept b true) f) g) v F c) → Q (some (.int (nI (gLedNow b 0)))) h1) : AM G yX11_image cX11_image 1 (some .int) d 0 0 [.ref (gB G + 0)] h Q := by
  obtain ⟨d, rfl, he⟩ := dpos hd
  obtain ⟨kw, hkw, hkr⟩ := hC.c2
  obtain ⟨⟨l, h78, hl⟩, kg, h79, hgr⟩ := hC.c11
  refine AM.of [some (.ref (gB G + 0))] pnX11 (Nat.le_of_ble_eq_true rfl) (by simp [lsub, lvI, Value.category]) ?_
  refine a_aloadn_0 (pc := 0) dX11_image_0 ?_
  refine gf_X11_16 (pc := 1) rfl dX11_image_1 (hC.c0) ?_
  refine a_aloadn_0 (pc := 4) dX11_image_4 ?_
  refine gf_X11_12 (pc := 5) rfl dX11_image_5 (hC.c0) ?_
  refine cv_X11_272 (pc := 8) rfl dX11_image_8 hkw.1 (Nat.le_of_ble_eq_true rfl) ?_
  refine x_layOn (by omega) hz hkw hC.c1 (by omega) ?_
  refine a_aloadn_0 (pc := 11) dX11_image_11 ?_
  refine gf_X11_86 (pc := 12) rfl dX11_image_12 ((putC_out (by omega)).trans hC.c0) ?_
  refine a_iconst (pc := 15) (v := nI 0) dX11_image_15 (by decide) ?_
  refine a_aloadn_0 (pc := 16) dX11_image_16 ?_
  refine gf_X11_90 (pc := 17) rfl dX11_image_17 ((putC_out (by omega)).trans hC.c0) ?_
  refine a_iconst (pc := 20) (v := nI 0) dX11_image_20 (by decide) ?_
  refine a_iconst (pc := 21) (v := nI 5) dX11_image_21 (by decide) ?_
  refine a_copyiR (pc := 22) (q0 := 78) (q1 := 79) 0 0 5 dX11_image_22 w_852 (by decide) (by decide) rfl rfl rfl (by decide) (by decide) ((putC_out (by omega)).trans h78) ((putC_out (by omega)).trans h79) (Nat.le_of_ble_eq_true rfl) ?_
  refine a_h (congrArg (fun e => (putC G h 4 (clay kw v)).set 79 e) (show _ = (ints G 5 (cpn 5 l kg) : va_E) from congrArg (fun g : Nat → Int32 => (show va_E from .inl (gc G 0, 5, .inl g))) (cpy_5 _ _))) ?_
  refine a_aloadn_0 (pc := 25) dX11_image_25 ?_
  refine a_iconst (pc := 26) (v := nI 1) dX11_image_26 (by decide) ?_
  refine a_topi (bI true) (by decide) ?_
  refine pf_X11_93 (pc := 27) rfl dX11_image_27 (bI_nar true) rfl (hs_ne (by omega) ((putC_out (by omega)).trans hC.c0)) ?_
  refine a_aloadn_0 (pc := 30) dX11_image_30 ?_
  refine gf_X11_86 (pc := 31) rfl dX11_image_31 (hs_eq (hs_ne (by omega) ((putC_out (by omega)).trans hC.c0))) ?_
  refine a_iconst (pc := 34) (v := nI 0) dX11_image_34 (by decide) ?_
  refine b_iald (pc := 35) 0 dX11_image_35 (hs_ne (by omega) (hs_ne (by omega) ((putC_out (by omega)).trans h78))) rfl (by decide) (by decide) ?_
  refine a_topi (nI (gLedNow b 0)) (congrArg nI (hl 0 (by decide))) ?_
  exact a_iret (pc := 36) dX11_image_36 rfl (zf hz) (k _ (fun f g hf hg => COb.img rfl hkw hl h79 hf hg hC))
set_option maxRecDepth 100000 in
set_option maxHeartbeats 4000000 in
theorem p_back {G : Cx} {d c : Nat} {h h0 : List va_E} {b : MB} {v : Cv} {F : Lf} {Q : Option Value → List va_E → Prop} (hd : 4 ≤ d) (hz : gz G = false) (hC : COb G h0 h b v F c) (k0 : gIsKept b = false → COb G h0 h b v F c → Q (some (.int (-5))) h) (k1 : gIsKept b = true → ∀ h1, (∀ f g : Nat → Nat, (∀ j, j < 36 → f j = gImageMay b j) → (∀ j, j < 36 → f (108 + j) = gImageMay b (108 + j)) → f 146 = gImageMay b 146 → (∀ j, 36 ≤ j → ¬ (108 ≤ j ∧ j < 144) → j ≠ 146 → f j = gMay b j) → (∀ j, j < 5 → g j = gImageLed b j) → ∃ v1, COb G h0 h1 (uLedNow (uMay b f) g) v1 F c) → Q (some (.int (nI (gImageLed b 0)))) h1) : AM G yX11_back cX11_back 1 (some .int) d 0 0 [.ref (gB G + 0)] h Q := by
  obtain ⟨d, rfl, he⟩ := dpos hd
  obtain ⟨kw, hkw, hkr⟩ := hC.c2
  obtain ⟨⟨l, h78, hl⟩, kg, h79, hgr⟩ := hC.c11
  refine AM.of [some (.ref (gB G + 0))] pnX11 (Nat.le_of_ble_eq_true rfl) (by simp [lsub, lvI, Value.category]) ?_
  refine a_aloadn_0 (pc := 0) dX11_back_0 ?_
  refine gf_X11_93 (pc := 1) rfl dX11_back_1 (hC.c0) ?_
  refine b_if_ne (pc := 4) (tgt := 10) dX11_back_4 (by decide) (fun c_4 => ?_) (fun c_4 => ?_)
  · refine a_aloadn_0 (pc := 10) dX11_back_10 ?_
    refine gf_X11_12 (pc := 11) rfl dX11_back_11 (hC.c0) ?_
    refine a_aloadn_0 (pc := 14) dX11_back_14 ?_
    refine gf_X11_16 (pc := 15) rfl dX11_back_15 (hC.c0) ?_
    refine cv_X11_272 (pc := 18) rfl dX11_back_18 hC.c1.1 (Nat.le_of_ble_eq_true rfl) ?_
    refine x_layOn (by omega) hz hC.c1 hkw (by omega) ?_
    refine a_aloadn_0 (pc := 21) dX11_back_21 ?_
    refine gf_X11_90 (pc := 22) rfl dX11_back_22 ((putC_out (by omega)).trans hC.c0) ?_
    refine a_iconst (pc := 25) (v := nI 0) dX11_back_25 (by decide) ?_
    refine a_aloadn_0 (pc := 26) dX11_back_26 ?_
    refine gf_X11_86 (pc := 27) rfl dX11_back_27 ((putC_out (by omega)).trans hC.c0) ?_
    refine a_iconst (pc := 30) (v := nI 0) dX11_back_30 (by decide) ?_
    refine a_iconst (pc := 31) (v := nI 5) dX11_back_31 (by decide) ?_
    refine a_copyiR (pc := 32) (q0 := 79) (q1 := 78) 0 0 5 dX11_back_32 w_852 (by decide) (by decide) rfl rfl rfl (by decide) (by decide) ((putC_out (by omega)).trans h79) ((putC_out (by omega)).trans h78) (Nat.le_of_ble_eq_true rfl) ?_
    refine a_h (congrArg (fun e => (putC G h 1 (clay v kw)).set 78 e) (show _ = (ints G 5 (cpn 5 kg l) : va_E) from congrArg (fun g : Nat → Int32 => (show va_E from .inl (gc G 0, 5, .inl g))) (cpy_5 _ _))) ?_
    refine a_aloadn_0 (pc := 35) dX11_back_35 ?_
    refine gf_X11_86 (pc := 36) rfl dX11_back_36 (hs_ne (by omega) ((putC_out (by omega)).trans hC.c0)) ?_
    refine a_iconst (pc := 39) (v := nI 0) dX11_back_39 (by decide) ?_
    refine b_iald (pc := 40) 0 dX11_back_40 (hs_eq ((putC_out (by omega)).trans h78)) rfl (by decide) (by decide) ?_
    refine a_topi (nI (gImageLed b 0)) (congrArg nI ((if_pos (by decide)).trans (hgr c_4 0 (by decide)))) ?_
    exact a_iret (pc := 41) dX11_back_41 rfl (zf hz) (k1 c_4 _ (fun f g f1 f2 f3 f4 hg => ⟨_, COb.bck rfl hkw (hkr c_4) h78 (hgr c_4) f1 f2 f3 f4 hg hC⟩))
  · refine a_bipush (pc := 7) (v := (-5)) dX11_back_7 (by decide) ?_
    exact a_iret (pc := 9) dX11_back_9 rfl (zf hz) (k0 c_4 hC)
set_option maxRecDepth 100000 in
set_option maxHeartbeats 4000000 in
theorem p_undo {G : Cx} {d c : Nat} {h h0 : List va_E} {b : MB} {v : Cv} {F : Lf} {Q : Option Value → List va_E → Prop} (hd : 6 ≤ d) (hz : gz G = false) (hC : COb G h0 h b v F c) (k0 : gDone b = 0 → COb G h0 h b v F c → Q (some (.int (-5))) h) (k1 : 0 < gDone b → ∀ h1 v1, COb G h0 h1 (uMay (uDone b (gDone b - 1)) (va_up (gMay b) (gChangeAt b (gDone b - 1)) (gChangeWas b (gDone b - 1)))) v1 F c → Q (some (.int (nI (gDone b - 1)))) h1) : AM G yX11_undo cX11_undo 1 (some .int) d 0 0 [.ref (gB G + 0)] h Q := by
  obtain ⟨d, rfl, he⟩ := dpos hd
  refine AM.of [some (.ref (gB G + 0))] pnX11 (Nat.le_of_ble_eq_true rfl) (by simp [lsub, lvI, Value.category]) ?_
  refine a_aloadn_0 (pc := 0) dX11_undo_0 ?_
  refine gf_X11_68 (pc := 1) rfl dX11_undo_1 hC.c0 ?_
  obtain ⟨⟨KA, kd, ka⟩, K0, kr1, kr2, kr3⟩ := hC.toH
  have kr1 : kd = gDone b := kr1
  have kr2 : ka = gKeptMany b := kr2
  subst kr1 kr2
  have hI := hC.2.1.2.2.1
  obtain ⟨hi1, hi2, hi3⟩ := hI
  refine cv_X11_281 (pc := 4) rfl dX11_undo_4 K0.ob (Nat.le_of_ble_eq_true rfl) ?_
  refine h_takeBack (by omega) hz K0 (show gDone b ≤ 40 by omega) (fun hp => ?_) (fun hp => ?_) (fun hp h1 H1 => ?_)
  · obtain ⟨a1, a2, a3, a4, a5⟩ := kr3 (gDone b - 1) (by have hp : 0 < gDone b := hp; omega)
    exact ⟨a1.le.1, a1.le.2, by show mayN _ (KA.2.2.1 _); rw [show KA.2.2.1 (gDone b - 1) = _ from a2]; exact a4⟩
  · have hp : gDone b = 0 := hp
    exact a_iret (pc := 7) dX11_undo_7 rfl (zf hz) (k0 hp hC)
  · have hp : 0 < gDone b := hp
    obtain ⟨a1, a2, a3, a4, a5⟩ := kr3 (gDone b - 1) (by omega)
    have a2 : KA.2.2.1 (gDone b - 1) = _ := a2
    have a1 : WHx (KA.1 (gDone b - 1)) (KA.2.1 (gDone b - 1)) _ := a1
    have hC1 := COb.hq (b1 := ((uMay (uDone b (gDone b - 1)) (va_up (gMay b) (gChangeAt b (gDone b - 1)) (gChangeWas b (gDone b - 1))))).1) H1 (by show BVb (va_up _ _ _) _; rw [show ((KA, gDone b, gKeptMany b) : Hk).1.2.2.1 = KA.2.2.1 from rfl, a2]; exact BVb_tell hC.bv a1 (fun q => (mayN_le a4 a1.le.1).2.2.1 q)) ⟨by show gDone b - 1 ≤ gKeptMany b; omega, hi2, hi3⟩ ⟨rfl, rfl, kr3⟩ hC
    exact a_iret (pc := 7) dX11_undo_7 rfl (zf hz) (k1 hp _ _ hC1)
set_option maxRecDepth 100000 in
set_option maxHeartbeats 4000000 in
theorem p_redo {G : Cx} {d c : Nat} {h h0 : List va_E} {b : MB} {v : Cv} {F : Lf} {Q : Option Value → List va_E → Prop} (hd : 6 ≤ d) (hz : gz G = false) (hC : COb G h0 h b v F c) (k0 : gDone b = gKeptMany b → COb G h0 h b v F c → Q (some (.int (-5))) h) (k1 : ¬ gDone b = gKeptMany b → ∀ h1 v1, COb G h0 h1 (uDone (uMay b (va_up (gMay b) (gChangeAt b (gDone b)) (gChangeIs b (gDone b)))) (gDone b + 1)) v1 F c → Q (some (.int (nI (gKeptMany b - (gDone b + 1))))) h1) : AM G yX11_redo cX11_redo 1 (some .int) d 0 0 [.ref (gB G + 0)] h Q := by
  obtain ⟨d, rfl, he⟩ := dpos hd
  refine AM.of [some (.ref (gB G + 0))] pnX11 (Nat.le_of_ble_eq_true rfl) (by simp [lsub, lvI, Value.category]) ?_
  refine a_aloadn_0 (pc := 0) dX11_redo_0 ?_
  refine gf_X11_68 (pc := 1) rfl dX11_redo_1 hC.c0 ?_
  obtain ⟨⟨KA, kd, ka⟩, K0, kr1, kr2, kr3⟩ := hC.toH
  have kr1 : kd = gDone b := kr1
  have kr2 : ka = gKeptMany b := kr2
  subst kr1 kr2
  have hI := hC.2.1.2.2.1
  obtain ⟨hi1, hi2, hi3⟩ := hI
  refine cv_X11_284 (pc := 4) rfl dX11_redo_4 K0.ob (Nat.le_of_ble_eq_true rfl) ?_
  refine h_doAgain (by omega) hz K0 (show gDone b ≤ gKeptMany b ∧ gKeptMany b ≤ 40 by omega) (fun hp => ?_) (fun hp => ?_) (fun hp h1 H1 => ?_)
  · obtain ⟨a1, a2, a3, a4, a5⟩ := kr3 (gDone b) hp
    exact ⟨a1.le.1, a1.le.2, by show mayN _ (KA.2.2.2 _); rw [show KA.2.2.2 (gDone b) = _ from a3]; exact a5⟩
  · have hp : ¬ gDone b < gKeptMany b := hp
    exact a_iret (pc := 7) dX11_redo_7 rfl (zf hz) (k0 (by omega) hC)
  · have hp : gDone b < gKeptMany b := hp
    obtain ⟨a1, a2, a3, a4, a5⟩ := kr3 (gDone b) (by omega)
    have a3 : KA.2.2.2 (gDone b) = _ := a3
    have a1 : WHx (KA.1 (gDone b)) (KA.2.1 (gDone b)) _ := a1
    have hC1 := COb.hq (b1 := ((uDone (uMay b (va_up (gMay b) (gChangeAt b (gDone b)) (gChangeIs b (gDone b)))) (gDone b + 1))).1) H1 (by show BVb (va_up _ _ _) _; rw [show ((KA, gDone b, gKeptMany b) : Hk).1.2.2.2 = KA.2.2.2 from rfl, a3]; exact BVb_tell hC.bv a1 (fun q => (mayN_le a5 a1.le.1).2.2.1 q)) ⟨by show gDone b + 1 ≤ gKeptMany b; omega, hi2, hi3⟩ ⟨rfl, rfl, kr3⟩ hC
    exact a_iret (pc := 7) dX11_redo_7 rfl (zf hz) (k1 (by omega) _ _ hC1)
