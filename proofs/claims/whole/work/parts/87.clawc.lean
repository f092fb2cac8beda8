/-! THE CLASS: law -/
theorem COb.lw {G : Cx} {h h1 h0 : List va_E} {b : MB} {v : Cv} {F : Lf} {c : Nat} {F' : Lf} {c' n : Nat} {t tx : Nat → Nat} {tm : Int32} (hl : h1.length = h.length) (e : ∀ k, k < 7 ∨ 24 < k → h1[k]? = h[k]?) (T : LR G h1 F' c' t n) (hLM : LM (uTextMany (uText (uTapeMany (uTape b t) n) tx) tm) F') (hn : n ≤ 120) (h255 : ∀ i, i < n → t i ≤ 255) (H : COb G h0 h b v F c) : COb G h0 h1 (uTextMany (uText (uTapeMany (uTape b t) n) tx) tm) v F' c' := by
  obtain ⟨⟨le0, f0⟩, P, q0, q1, q2, q3, q4, q5, q6, q7, q8, q9, q10, q11⟩ := H
  exact ⟨⟨hl.trans le0, fun k hk => (e k (by omega)).trans (f0 k hk)⟩, ⟨P.1, hLM, P.2.2.1, P.2.2.2.1, P.2.2.2.2.1, P.2.2.2.2.2.1, hn, h255⟩, q0.mv (e 0 (by omega)), q1.mv (fun k a1 a2 => e k (by omega)), q2.mv (fun k a1 a2 => e k (by omega)), T, q4.mv (fun k a1 a2 => e k (by omega)), q5.mv (fun k a1 a2 => e k (by omega)), q6.mv (fun k a1 a2 => e k (by omega)), q7.mv (fun k a1 a2 => e k (by omega)), q8.mv (fun k a1 a2 => e k (by omega)), q9.mv (fun k a1 a2 => e k (by omega)), q10.mv (fun k a1 a2 => e k (by omega)), q11.mv (fun k a1 a2 => e k (by omega))⟩
set_option maxRecDepth 100000 in
set_option maxHeartbeats 4000000 in
theorem p_law {G : Cx} {d c : Nat} {h h0 : List va_E} {b : MB} {v : Cv} {F : Lf} {Q : Option Value → List va_E → Prop} (hd : 75 ≤ d) (hz : gz G = false) (hC : COb G h0 h b v F c) {nn : Nat} (hn : gTapeMany b = nn) (hc9 : c + 1 < 100000) (k0 : ∀ f, txt (chA (gTape b) nn) nn = .inl f → f ≤ nn → ∀ h1, COb G h0 h1 (uTapeMany b 0) v F c → Q (some (.int (Int32.ofInt (-100) - nI f))) h1) (k1 : ∀ A, txt (chA (gTape b) nn) nn = .inr A → ∀ h1, (∀ f : Nat → Nat, (∀ j, j < nn → f j = gTape b j) → COb G h0 h1 (uTextMany (uText (uTapeMany b 0) f) (nI nn)) v (lawF A) (c + 1)) → Q (some (.int (nI 1))) h1) : AM G yX11_law cX11_law 2 (some .int) d 0 0 [.ref (gB G + 0)] h Q := by
  obtain ⟨d, rfl, he⟩ := dpos hd
  subst hn
  obtain ⟨t, t', ht, ⟨rd, x, vf, m, y, L, hc⟩, ⟨p, f, x', o, T⟩, hb, x0, T0⟩ := hC.c3
  have t120 := hC.2.1.2.2.2.2.2.2.1
  have t255 := hC.2.1.2.2.2.2.2.2.2
  have hR : RS G h h t' (gTape b) (gTapeMany b) p f x' := ⟨by omega, rfl, fun _ _ _ => rfl, o, hb, T⟩
  have hBY : BYC (gTape b) (gTapeMany b) (chA (gTape b) (gTapeMany b)) := ⟨t120, chA_0 _ _, fun i => by
    unfold chA
    split
    · rename_i q; exact t255 i q
    · omega, fun i hi => (if_pos hi).symm⟩
  refine AM.of [some (.ref (gB G + 0)), none] pnX11 (Nat.le_of_ble_eq_true rfl) (by simp [lsub, lvI, Value.category]) ?_
  refine a_aloadn_0 (pc := 0) dX11_law_0 ?_
  refine gf_X11_29 (pc := 1) rfl dX11_law_1 (hC.c0) ?_
  refine cv_X11_149 (pc := 4) rfl dX11_law_4 o (Nat.le_of_ble_eq_true rfl) ?_
  refine r_read (by omega) hz hBY hR (fun f9 hf9 h1 p1 x1 H1 hle => ?_) (fun A hA h1 p1 x1 D1 H1 hD hLn hP hN6 => ?_)
  · have R1 : RT G h1 h1 t' (gTape b) (gTapeMany b) p1 (nI f9) x1 := ⟨by omega, rfl, fun _ _ _ => rfl, H1.2.2.2.1, H1.2.2.2.2.1, H1.2.2.2.2.2⟩
    refine a_istoren_1 (pc := 7) dX11_law_7 (by decide) (by first | rfl | trivial) ?_
    refine a_aloadn_0 (pc := 8) dX11_law_8 ?_
    refine gf_X11_29 (pc := 9) rfl dX11_law_9 ((H1.2.2.1 0 (by omega) (by omega)).trans hC.c0) ?_
    refine cv_X11_153 (pc := 12) rfl dX11_law_12 H1.2.2.2.1 (Nat.le_of_ble_eq_true rfl) ?_
    refine r_empty (by omega) hz R1 (fun h2 R2 => ?_)
    have fr2 : ∀ k, k ≠ 16 → k ≠ 17 → (k < t' ∨ t' + 6 < k) → h2[k]? = h[k]? := fun k a1 a2 a3 => (R2.2.2.1 k a1 a2).trans (H1.2.2.1 k a1 a3)
    have L2 := L.out (h1 := h2) (fun k hk => fr2 k (by omega) (by omega) (by omega))
    have T2 := T0.out (h1 := h2) (fun k hk => fr2 k (by omega) (by omega) (by omega))
    refine a_iloadn_1 (pc := 15) dX11_law_15 ?_
    refine n_if_lt (tgt := 24) dX11_law_16 (by decide) (by omega) ?_
    have hC1 := COb.lw (t := gTape b) (n := 0) (tx := gText b) (tm := gTextMany b) (R2.2.1.trans H1.2.1) (fun k hk => fr2 k (by omega) (by omega) (by omega)) ⟨t, t', ht, ⟨rd, x, vf, m, y, L2, hc⟩, ⟨p1, nI f9, x1, R2.2.2.2.1, R2.2.2.2.2.2⟩, R2.2.2.2.2.1, x0, T2⟩ hC.2.1.2.1 (by omega) (fun i hi => absurd hi (Nat.not_lt_zero i)) hC
    refine a_bipush (pc := 19) (v := (-100)) dX11_law_19 (by decide) ?_
    refine a_topi (Int32.ofInt (-100)) (by decide) ?_
    refine a_iloadn_1 (pc := 21) dX11_law_21 ?_
    refine a_isub (pc := 22) dX11_law_22 ?_
    exact a_iret (pc := 23) dX11_law_23 rfl (zf hz) (k0 f9 hf9 hle _ hC1)
  · have R1 : RT G h1 h1 t' (gTape b) (gTapeMany b) p1 (-1) x1 := ⟨by omega, rfl, fun _ _ _ => rfl, H1.2.2.2.1, H1.2.2.2.2.1, H1.2.2.2.2.2⟩
    refine a_istoren_1 (pc := 7) dX11_law_7 (by decide) (by first | rfl | trivial) ?_
    refine a_aloadn_0 (pc := 8) dX11_law_8 ?_
    refine gf_X11_29 (pc := 9) rfl dX11_law_9 ((H1.2.2.1 0 (by omega) (by omega)).trans hC.c0) ?_
    refine cv_X11_153 (pc := 12) rfl dX11_law_12 H1.2.2.2.1 (Nat.le_of_ble_eq_true rfl) ?_
    refine r_empty (by omega) hz R1 (fun h2 R2 => ?_)
    have fr2 : ∀ k, k ≠ 16 → k ≠ 17 → (k < t' ∨ t' + 6 < k) → h2[k]? = h[k]? := fun k a1 a2 a3 => (R2.2.2.1 k a1 a2).trans (H1.2.2.1 k a1 a3)
    have L2 := L.out (h1 := h2) (fun k hk => fr2 k (by omega) (by omega) (by omega))
    have T2 := T0.out (h1 := h2) (fun k hk => fr2 k (by omega) (by omega) (by omega))
    refine a_iloadn_1 (pc := 15) dX11_law_15 ?_
    refine a_if_lt (pc := 16) (tgt := 24) dX11_law_16 (by decide) (fun c_16 => ?_) (fun c_16 => absurd c_16 (by decide))
    refine a_aloadn_0 (pc := 24) dX11_law_24 ?_
    refine gf_X11_22 (pc := 25) rfl dX11_law_25 ((fr2 0 (by omega) (by omega) (by omega)).trans hC.c0) ?_
    refine a_aloadn_0 (pc := 28) dX11_law_28 ?_
    refine gf_X11_29 (pc := 29) rfl dX11_law_29 ((fr2 0 (by omega) (by omega) (by omega)).trans hC.c0) ?_
    refine cv_X11_156 (pc := 32) rfl dX11_law_32 L2.2.2.1 (Nat.le_of_ble_eq_true rfl) ?_
    refine l_become (by omega) hz ht L2 hc hc9 R2.2.2.2.1 R2.2.2.2.2.2 R2.2.2.2.2.1 T2 hD hLn hP hN6 (fun h3 hl9 e9 L3 => ?_)
    refine a_iconst (pc := 35) (v := nI 1) dX11_law_35 (by decide) ?_
    exact a_iret (pc := 36) dX11_law_36 rfl (zf hz) (k1 A hA _ (fun f hf => COb.lw (t := gTape b) (n := 0) (tx := f) (tm := nI (gTapeMany b)) (hl9.trans (R2.2.1.trans H1.2.1)) (fun k hk => (e9 k (by omega) (by omega)).trans (fr2 k (by omega) (by omega) (by omega))) L3 (Or.inr ⟨gTapeMany b, A, rfl, t120, fun i hi => Nat.le_trans (Nat.le_of_eq (hf i hi)) (t255 i hi), by rw [show chA f (gTapeMany b) = chA (gTape b) (gTapeMany b) from funext (fun i => by unfold chA; split; (· rename_i q; exact hf i q); (· rfl))]; exact hA, rfl⟩) (by omega) (fun i hi => absurd hi (Nat.not_lt_zero i)) hC))
