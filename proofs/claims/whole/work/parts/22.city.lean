abbrev clay (v u : Cv) : Cv := (cW u, cG v, cK u, cC v, (cH v, cB v, cT u), v.2.2.2.2.2)
abbrev ccopy (v u : Cv) : Cv := (cW u, cG u, cK u, cC u, (cH u, cB u, cT u), v.2.2.2.2.2)
theorem okC_lay {v u : Cv} (h : okC v) (h' : okC u) : okC (clay v u) :=
  ⟨h'.1, h.2.1, fun k hk => ⟨(h'.2.2.1 k hk).1, (h.2.2.1 k hk).2⟩, h.2.2.2.1, h.2.2.2.2.1, h'.2.2.2.2.2.1, h.2.2.2.2.2.2⟩
theorem okC_copy {v u : Cv} (h : okC v) (h' : okC u) : okC (ccopy v u) :=
  ⟨h'.1, h'.2.1, h'.2.2.1, h'.2.2.2.1, h'.2.2.2.2.1, h'.2.2.2.2.2.1, h.2.2.2.2.2.2⟩
theorem set_set {h : List va_E} {i : Nat} {x y : va_E} : (h.set i x).set i y = h.set i y := by simp
theorem putC_go {G : Cx} {h : List va_E} {a : Nat} {v v' : Cv} (H : cityAt G h a v) (hg : cW v' = cW v) : (h.set (a + 2) (ints G 36 (cG v'))).set a (cObj G a v') = putC G h a v' := by
  obtain ⟨h1, h2, h3, h4⟩ := H
  unfold putC
  rw [set_sc (by omega : a + 2 ≠ a), hs_id (h := h.set a _) (q := a + 1) (hs_ne (by omega) (by rw [hg]; exact h2))]
set_option maxRecDepth 100000 in
set_option maxHeartbeats 4000000 in
theorem x_layOn {G : Cx} {d a b : Nat} {h : List va_E} {v u : Cv} {Q : Option Value → List va_E → Prop} (hd : 1 ≤ d) (hz : gz G = false) (hc : cityAt G h a v) (hb : cityAt G h b u) (hab : a + 2 < b ∨ b + 2 < a) (k : Q none (putC G h a (clay v u))) : AM G yX0_layOn cX0_layOn 2 none d 0 0 [.ref (gB G + a), .ref (gB G + b)] h Q := by
  obtain ⟨d, rfl, he⟩ := dpos hd
  obtain ⟨q0, q1, q2, ok⟩ := id hc
  obtain ⟨r0, r1, r2, ok2⟩ := id hb
  refine AM.of [some (.ref (gB G + a)), some (.ref (gB G + b))] pnX0 (Nat.le_of_ble_eq_true rfl) (by simp [lsub, lvI, Value.category]) ?_
  refine a_aloadn_1 (pc := 0) dX0_layOn_0 ?_
  refine gf_X0_9 (pc := 1) rfl dX0_layOn_1 (by first | assumption | (repeat first | assumption | apply hs_eq | refine hs_ne (by omega) ?_)) ?_
  refine a_iconst (pc := 4) (v := nI 0) dX0_layOn_4 (by decide) ?_
  refine a_aloadn_0 (pc := 5) dX0_layOn_5 ?_
  refine gf_X0_9 (pc := 6) rfl dX0_layOn_6 (by first | assumption | (repeat first | assumption | apply hs_eq | refine hs_ne (by omega) ?_)) ?_
  refine a_iconst (pc := 9) (v := nI 0) dX0_layOn_9 (by decide) ?_
  refine a_bipush (pc := 10) (v := nI 36) dX0_layOn_10 (by decide) ?_
  refine a_copyiR (pc := 12) 0 0 36 dX0_layOn_12 w_592 (by decide) (by decide) rfl rfl rfl (by decide) (by decide) r1 q1 (Nat.le_of_ble_eq_true rfl) ?_
  rw [cpy_all (fun k hk => (ok2.2.2.1 k hk).1) (fun k hk => (ok.2.2.1 k hk).1)]
  refine a_aloadn_0 (pc := 15) dX0_layOn_15 ?_
  refine a_aloadn_1 (pc := 16) dX0_layOn_16 ?_
  refine gf_X0_39 (pc := 17) rfl dX0_layOn_17 (by first | assumption | (repeat first | assumption | apply hs_eq | refine hs_ne (by omega) ?_)) ?_
  refine pf_X0_39 (pc := 20) rfl dX0_layOn_20 (by first | assumption | (repeat first | assumption | apply hs_eq | refine hs_ne (by omega) ?_)) ?_
  refine a_aloadn_0 (pc := 23) dX0_layOn_23 ?_
  refine a_aloadn_1 (pc := 24) dX0_layOn_24 ?_
  refine gf_X0_42 (pc := 25) rfl dX0_layOn_25 (by first | assumption | (repeat first | assumption | apply hs_eq | refine hs_ne (by omega) ?_)) ?_
  refine pf_X0_42 (pc := 28) rfl dX0_layOn_28 (by first | assumption | (repeat first | assumption | apply hs_eq | refine hs_ne (by omega) ?_)) ?_
  refine a_aloadn_0 (pc := 31) dX0_layOn_31 ?_
  refine a_aloadn_1 (pc := 32) dX0_layOn_32 ?_
  refine gf_X0_45 (pc := 33) rfl dX0_layOn_33 (by first | assumption | (repeat first | assumption | apply hs_eq | refine hs_ne (by omega) ?_)) ?_
  refine pf_X0_45 (pc := 36) rfl dX0_layOn_36 (by first | assumption | (repeat first | assumption | apply hs_eq | refine hs_ne (by omega) ?_)) ?_
  exact a_vret (pc := 39) dX0_layOn_39 rfl (zf hz) (by rw [set_set, set_set, putC_wo (v' := clay v u) hc rfl]; exact k)
set_option maxRecDepth 100000 in
set_option maxHeartbeats 4000000 in
theorem x_copy {G : Cx} {d a b : Nat} {h : List va_E} {v u : Cv} {Q : Option Value → List va_E → Prop} (hd : 2 ≤ d) (hz : gz G = false) (hc : cityAt G h a v) (hb : cityAt G h b u) (hab : a + 2 < b ∨ b + 2 < a) (k : Q none (putC G h a (ccopy v u))) : AM G yX0_copy cX0_copy 2 none d 0 0 [.ref (gB G + a), .ref (gB G + b)] h Q := by
  obtain ⟨d, rfl, he⟩ := dpos hd
  obtain ⟨q0, q1, q2, ok⟩ := id hc
  obtain ⟨r0, r1, r2, ok2⟩ := id hb
  refine AM.of [some (.ref (gB G + a)), some (.ref (gB G + b))] pnX0 (Nat.le_of_ble_eq_true rfl) (by simp [lsub, lvI, Value.category]) ?_
  refine a_aloadn_0 (pc := 0) dX0_copy_0 ?_
  refine a_aloadn_1 (pc := 1) dX0_copy_1 ?_
  refine cv_X0_25 (pc := 2) rfl dX0_copy_2 (by first | assumption | (repeat first | assumption | apply hs_eq | refine hs_ne (by omega) ?_)) (Nat.le_of_ble_eq_true rfl) ?_
  refine x_layOn he hz hc hb hab ?_
  have hc1 := putC_at (v' := clay v u) hc (okC_lay ok ok2)
  have hb1 := putC_far (v' := clay v u) hab hb
  obtain ⟨s0, s1, s2, _⟩ := id hc1
  obtain ⟨t0, t1, t2, _⟩ := id hb1
  refine a_aloadn_1 (pc := 5) dX0_copy_5 ?_
  refine gf_X0_15 (pc := 6) rfl dX0_copy_6 (by first | assumption | (repeat first | assumption | apply hs_eq | refine hs_ne (by omega) ?_)) ?_
  refine a_iconst (pc := 9) (v := nI 0) dX0_copy_9 (by decide) ?_
  refine a_aloadn_0 (pc := 10) dX0_copy_10 ?_
  refine gf_X0_15 (pc := 11) rfl dX0_copy_11 (by first | assumption | (repeat first | assumption | apply hs_eq | refine hs_ne (by omega) ?_)) ?_
  refine a_iconst (pc := 14) (v := nI 0) dX0_copy_14 (by decide) ?_
  refine a_bipush (pc := 15) (v := nI 36) dX0_copy_15 (by decide) ?_
  refine a_copyiR (pc := 17) 0 0 36 dX0_copy_17 w_592 (by decide) (by decide) rfl rfl rfl (by decide) (by decide) t2 s2 (Nat.le_of_ble_eq_true rfl) ?_
  rw [cpy_all (fun k hk => (ok2.2.2.1 k hk).2) (fun k hk => (ok.2.2.1 k hk).2)]
  refine a_aloadn_0 (pc := 20) dX0_copy_20 ?_
  refine a_aloadn_1 (pc := 21) dX0_copy_21 ?_
  refine gf_X0_35 (pc := 22) rfl dX0_copy_22 (by first | assumption | (repeat first | assumption | apply hs_eq | refine hs_ne (by omega) ?_)) ?_
  refine pf_X0_35 (pc := 25) rfl dX0_copy_25 (by first | assumption | (repeat first | assumption | apply hs_eq | refine hs_ne (by omega) ?_)) ?_
  refine a_aloadn_0 (pc := 28) dX0_copy_28 ?_
  refine a_aloadn_1 (pc := 29) dX0_copy_29 ?_
  refine gf_X0_18 (pc := 30) rfl dX0_copy_30 (by first | assumption | (repeat first | assumption | apply hs_eq | refine hs_ne (by omega) ?_)) ?_
  refine pf_X0_18 (pc := 33) rfl dX0_copy_33 (by first | assumption | (repeat first | assumption | apply hs_eq | refine hs_ne (by omega) ?_)) ?_
  refine a_aloadn_0 (pc := 36) dX0_copy_36 ?_
  refine a_aloadn_1 (pc := 37) dX0_copy_37 ?_
  refine gf_X0_22 (pc := 38) rfl dX0_copy_38 (by first | assumption | (repeat first | assumption | apply hs_eq | refine hs_ne (by omega) ?_)) ?_
  refine pf_X0_22 (pc := 41) rfl dX0_copy_41 (by first | assumption | (repeat first | assumption | apply hs_eq | refine hs_ne (by omega) ?_)) ?_
  exact a_vret (pc := 44) dX0_copy_44 rfl (zf hz) (by rw [set_set, set_set, putC_go (v' := ccopy v u) hc1 rfl, putC_put]; exact k)
set_option maxRecDepth 100000 in
set_option maxHeartbeats 4000000 in
theorem x_darkCount {G : Cx} {d a : Nat} {h : List va_E} {v : Cv} {Q : Option Value → List va_E → Prop} (hd : 2 ≤ d) (hz : gz G = false) (hc : cityAt G h a v) (k : Q (some (.int (nI (ctn (cK v) 36)))) h) : AM G yX0_darkCount cX0_darkCount 1 (some .int) d 0 0 [.ref (gB G + a)] h Q := by
  obtain ⟨d, rfl, he⟩ := dpos hd
  obtain ⟨q0, q1, q2, ok⟩ := id hc
  refine AM.of [some (.ref (gB G + a))] pnX0 (Nat.le_of_ble_eq_true rfl) (by simp [lsub, lvI, Value.category]) ?_
  refine a_aloadn_0 (pc := 0) dX0_darkCount_0 ?_
  refine gf_X0_42 (pc := 1) rfl dX0_darkCount_1 (by first | assumption | (repeat first | assumption | apply hs_eq | refine hs_ne (by omega) ?_)) ?_
  refine cs_X0_54 (pc := 4) rfl dX0_darkCount_4 (Nat.le_of_ble_eq_true rfl) ?_
  refine x_bitCount he hz ?_
  rw [ct_bL]
  exact a_iret (pc := 7) dX0_darkCount_7 rfl (zf hz) k
set_option maxRecDepth 100000 in
set_option maxHeartbeats 4000000 in
theorem x_darkChildren {G : Cx} {d a : Nat} {h : List va_E} {v : Cv} {Q : Option Value → List va_E → Prop} (hd : 2 ≤ d) (hz : gz G = false) (hc : cityAt G h a v) (k : Q (some (.int (nI (ctn (fun i => cK v i && cC v i) 36)))) h) : AM G yX0_darkChildren cX0_darkChildren 1 (some .int) d 0 0 [.ref (gB G + a)] h Q := by
  obtain ⟨d, rfl, he⟩ := dpos hd
  obtain ⟨q0, q1, q2, ok⟩ := id hc
  refine AM.of [some (.ref (gB G + a))] pnX0 (Nat.le_of_ble_eq_true rfl) (by simp [lsub, lvI, Value.category]) ?_
  refine a_aloadn_0 (pc := 0) dX0_darkChildren_0 ?_
  refine gf_X0_42 (pc := 1) rfl dX0_darkChildren_1 (by first | assumption | (repeat first | assumption | apply hs_eq | refine hs_ne (by omega) ?_)) ?_
  refine a_aloadn_0 (pc := 4) dX0_darkChildren_4 ?_
  refine gf_X0_35 (pc := 5) rfl dX0_darkChildren_5 (by first | assumption | (repeat first | assumption | apply hs_eq | refine hs_ne (by omega) ?_)) ?_
  refine a_land (pc := 8) dX0_darkChildren_8 ?_
  refine a_topl _ (bL_and _ _) ?_
  refine cs_X0_54 (pc := 9) rfl dX0_darkChildren_9 (Nat.le_of_ble_eq_true rfl) ?_
  refine x_bitCount he hz ?_
  rw [ct_bL]
  exact a_iret (pc := 12) dX0_darkChildren_12 rfl (zf hz) k
