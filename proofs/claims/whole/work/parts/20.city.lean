/-! CITY: what its three cells hold -/
abbrev Cv : Type := (Nat → Nat) × (Nat → Nat) × (Nat → Bool) × (Nat → Bool) × (Nat × Nat × Nat) × (Nat → Bool) × (Nat → Bool) × Nat
abbrev cW (v : Cv) : Nat → Nat := v.1
abbrev cG (v : Cv) : Nat → Nat := v.2.1
abbrev cK (v : Cv) : Nat → Bool := v.2.2.1
abbrev cC (v : Cv) : Nat → Bool := v.2.2.2.1
abbrev cH (v : Cv) : Nat := v.2.2.2.2.1.1
abbrev cB (v : Cv) : Nat := v.2.2.2.2.1.2.1
abbrev cT (v : Cv) : Nat := v.2.2.2.2.1.2.2
abbrev cF (v : Cv) : Nat → Bool := v.2.2.2.2.2.1
abbrev cO (v : Cv) : Nat → Bool := v.2.2.2.2.2.2.1
abbrev cU (v : Cv) : Nat := v.2.2.2.2.2.2.2
abbrev wx (w : Nat → Nat) : Nat → Bool := fun r => decide (0 < w r)
abbrev clit (v : Cv) : Nat → Bool := fun r => wx (cW v) r && !cK v r
abbrev ints (G : Cx) (n : Nat) (f : Nat → Nat) : va_E := .inl (gc G 0, n, .inl (fun j => nI (f j)))
abbrev cObj (G : Cx) (a : Nat) (v : Cv) : va_E := .inr (0, [.ref (gB G + (a + 1)), .ref (gB G + (a + 2)), .long (bL (wx (cW v))), .long (bL (cK v)), .long (bL (cC v)), .int (nI (cH v)), .int (nI (cB v)), .int (nI (cT v)), .long (bL (cF v)), .long (bL (cO v)), .int (nI (cU v))])
/-- what holds of a city's numbers always -/
def okC (v : Cv) : Prop := (∀ k, cW v k ≤ 99) ∧ (∀ k, cG v k ≤ 9) ∧ (∀ k, 36 ≤ k → cW v k = 0 ∧ cG v k = 0) ∧ (1 ≤ cH v ∧ cH v ≤ 9) ∧ (1 ≤ cB v ∧ cB v ≤ 4) ∧ cT v ≤ 11 ∧ cU v ≤ 10000
def cityAt (G : Cx) (h : List va_E) (a : Nat) (v : Cv) : Prop := h[a]? = some (cObj G a v) ∧ h[a + 1]? = some (ints G 36 (cW v)) ∧ h[a + 2]? = some (ints G 36 (cG v)) ∧ okC v
def putC (G : Cx) (h : List va_E) (a : Nat) (v : Cv) : List va_E := ((h.set a (cObj G a v)).set (a + 1) (ints G 36 (cW v))).set (a + 2) (ints G 36 (cG v))
theorem putC_out {G : Cx} {h : List va_E} {a k : Nat} {v : Cv} (hk : k < a ∨ a + 2 < k) : (putC G h a v)[k]? = h[k]? := by
  unfold putC
  rw [List.getElem?_set_ne (by omega), List.getElem?_set_ne (by omega), List.getElem?_set_ne (by omega)]
theorem putC_at {G : Cx} {h : List va_E} {a : Nat} {v v' : Cv} (H : cityAt G h a v) (hok : okC v') : cityAt G (putC G h a v') a v' := by
  obtain ⟨h1, h2, h3, h4⟩ := H
  unfold putC
  exact ⟨hs_ne (by omega) (hs_ne (by omega) (hs_eq h1)), hs_ne (by omega) (hs_eq (e0 := ints G 36 (cW v)) (hs_ne (by omega) h2)), hs_eq (e0 := ints G 36 (cG v)) (hs_ne (by omega) (hs_ne (by omega) h3)), hok⟩
theorem putC_far {G : Cx} {h : List va_E} {a b : Nat} {v v' : Cv} (hab : a + 2 < b ∨ b + 2 < a) (H : cityAt G h b v) : cityAt G (putC G h a v') b v := by
  obtain ⟨h1, h2, h3, h4⟩ := H
  exact ⟨(putC_out (by omega)).trans h1, (putC_out (by omega)).trans h2, (putC_out (by omega)).trans h3, h4⟩
theorem putC_id {G : Cx} {h : List va_E} {a : Nat} {v : Cv} (H : cityAt G h a v) : putC G h a v = h := by
  obtain ⟨h1, h2, h3, h4⟩ := H
  unfold putC
  rw [hs_id h1, hs_id h2, hs_id h3]
theorem putC_len {G : Cx} {h : List va_E} {a : Nat} {v : Cv} : (putC G h a v).length = h.length := by simp [putC]
theorem set_sc {h : List va_E} {i j : Nat} {x y : va_E} (hij : i ≠ j) : (h.set i x).set j y = (h.set j y).set i x := List.set_comm _ _ hij
theorem putC_put {G : Cx} {h : List va_E} {a : Nat} {v v' : Cv} : putC G (putC G h a v) a v' = putC G h a v' := by
  apply List.ext_getElem?
  intro i
  simp only [putC, List.getElem?_set, List.length_set]
  by_cases h1 : a = i
  · subst h1; simp
  · by_cases h2 : a + 1 = i
    · subst h2; simp
    · by_cases h3 : a + 2 = i
      · subst h3; simp
      · simp [h1, h2, h3]
theorem putC_comm {G : Cx} {h : List va_E} {a b : Nat} {v v' : Cv} (hab : a + 2 < b ∨ b + 2 < a) : putC G (putC G h a v) b v' = putC G (putC G h b v') a v := by
  apply List.ext_getElem?
  intro i
  by_cases h1 : b ≤ i ∧ i ≤ b + 2
  · rw [putC_out (a := a) (by omega)]
    simp only [putC, List.getElem?_set, List.length_set]
    rcases (show i = b ∨ i = b + 1 ∨ i = b + 2 by omega) with rfl | rfl | rfl
    · simp [show ¬ a = i by omega, show ¬ a + 1 = i by omega, show ¬ a + 2 = i by omega]
    · simp [show ¬ a = b + 1 by omega, show ¬ a = b by omega, show ¬ a + 2 = b + 1 by omega]
    · simp [show ¬ a = b + 2 by omega, show ¬ a + 1 = b + 2 by omega, show ¬ a = b by omega]
  · rw [putC_out (a := b) (by omega)]
    by_cases h2 : a ≤ i ∧ i ≤ a + 2
    · simp only [putC, List.getElem?_set, List.length_set]
      rcases (show i = a ∨ i = a + 1 ∨ i = a + 2 by omega) with rfl | rfl | rfl
      · simp [show ¬ b = i by omega, show ¬ b + 1 = i by omega, show ¬ b + 2 = i by omega]
      · simp [show ¬ b = a + 1 by omega, show ¬ b = a by omega, show ¬ b + 2 = a + 1 by omega]
      · simp [show ¬ b = a + 2 by omega, show ¬ b + 1 = a + 2 by omega, show ¬ b = a by omega]
    · rw [putC_out (a := a) (by omega), putC_out (a := a) (by omega), putC_out (a := b) (by omega)]
/-- only the object's own cell is written -/
theorem putC_o {G : Cx} {h : List va_E} {a : Nat} {v v' : Cv} (H : cityAt G h a v) (hw : cW v' = cW v) (hg : cG v' = cG v) : h.set a (cObj G a v') = putC G h a v' := by
  obtain ⟨h1, h2, h3, h4⟩ := H
  unfold putC
  rw [hs_id (h := h.set a _) (q := a + 1) (hs_ne (by omega) (by rw [hw]; exact h2)), hs_id (h := h.set a _) (q := a + 2) (hs_ne (by omega) (by rw [hg]; exact h3))]
/-- wax and the object -/
theorem putC_wo {G : Cx} {h : List va_E} {a : Nat} {v v' : Cv} (H : cityAt G h a v) (hg : cG v' = cG v) : (h.set (a + 1) (ints G 36 (cW v'))).set a (cObj G a v') = putC G h a v' := by
  obtain ⟨h1, h2, h3, h4⟩ := H
  unfold putC
  rw [set_sc (by omega : a + 1 ≠ a), hs_id (h := (h.set a _).set (a + 1) _) (q := a + 2) (hs_ne (by omega) (hs_ne (by omega) (by rw [hg]; exact h3)))]
theorem upd_nI (f : Nat → Nat) (r x : Nat) : upd (fun j => nI (f j)) r (nI x) = fun j => nI (va_up f r x j) := by
  funext j
  unfold upd va_up
  by_cases h : j = r <;> simp [h]
abbrev csW (v : Cv) (r x : Nat) : Cv := (va_up (cW v) r x, v.2)
theorem pnX0 : plainName RX0 = true := by decide
theorem dpos {k d : Nat} (h : k + 1 ≤ d) : ∃ e, d = e + 1 ∧ k ≤ e := ⟨d - 1, by omega, by omega⟩
theorem lushr_bit (f : Nat → Bool) {r : Nat} (hr : r < 36) : lg_cmp (((bL f).toUInt64 >>> ((nI r).toInt64.toUInt64 &&& Int64.toUInt64 63)).toInt64 &&& 1) 0 = 0 ↔ f r = false := by
  rw [lg_cmp0, bL_get hr]
  cases f r <;> decide
theorem bL_set (f : Nat → Bool) {r : Nat} (hr : r < 36) : bL f ||| ((1 : Int64) <<< ((nI r).toInt64 &&& 63)) = bL (va_up f r true) := by
  rw [bL_bit hr, bL_or]
  apply bL_congr
  intro i _
  unfold va_up
  by_cases h : i = r <;> simp [h]
theorem bL_clr (f : Nat → Bool) {r : Nat} (hr : r < 36) : bL f &&& (((1 : Int64) <<< ((nI r).toInt64 &&& 63)) ^^^ (-1)) = bL (va_up f r false) := by
  rw [bL_bit hr, bL_andn]
  apply bL_congr
  intro i _
  unfold va_up
  by_cases h : i = r <;> simp [h]
theorem okC_W {v : Cv} {r x : Nat} (h : okC v) (hr : r < 36) (hx : x ≤ 99) : okC (csW v r x) := by
  obtain ⟨h1, h2, h3, h4⟩ := h
  refine ⟨fun k => ?_, h2, fun k hk => ⟨?_, (h3 k hk).2⟩, h4⟩
  · show va_up (cW v) r x k ≤ 99
    unfold va_up
    split
    · exact hx
    · exact h1 k
  · show va_up (cW v) r x k = 0
    unfold va_up
    rw [if_neg (by omega)]
    exact (h3 k hk).1
theorem cpy_all {f g : Nat → Nat} (hf : ∀ k, 36 ≤ k → f k = 0) (hg : ∀ k, 36 ≤ k → g k = 0) : va_cpy (fun j => nI (f j)) (fun j => nI (g j)) 0 0 36 = fun j => nI (f j) := by
  funext j
  unfold va_cpy
  by_cases h : 0 ≤ j ∧ j < 0 + 36
  · rw [if_pos h, Nat.sub_zero, Nat.zero_add]
  · rw [if_neg h, hf j (by omega)]
    show nI (g j) = _
    rw [hg j (by omega)]
theorem ct_bL (f : Nat → Bool) : ctn (tb (bL f)) 64 = ctn f 36 := by
  rw [ctn_cut (m := 36) (by decide) (fun k hk => by rw [tb_bL]; simp; omega)]
  exact ctn_congr (fun k hk => by rw [tb_bL]; simp [hk])

set_option maxRecDepth 100000 in
set_option maxHeartbeats 4000000 in
theorem x_lit {G : Cx} {d a : Nat} {h : List va_E} {v : Cv} {Q : Option Value → List va_E → Prop} (hd : 1 ≤ d) (hz : gz G = false) (hc : cityAt G h a v) (k : Q (some (.long (bL (clit v)))) h) : AM G yX0_lit cX0_lit 1 (some .long) d 0 0 [.ref (gB G + a)] h Q := by
  obtain ⟨d, rfl, he⟩ := dpos hd
  obtain ⟨q0, q1, q2, ok⟩ := id hc
  refine AM.of [some (.ref (gB G + a))] pnX0 (Nat.le_of_ble_eq_true rfl) (by simp [lsub, lvI, Value.category]) ?_
  refine a_aloadn_0 (pc := 0) dX0_lit_0 ?_
  refine gf_X0_39 (pc := 1) rfl dX0_lit_1 (by first | assumption | (repeat first | assumption | apply hs_eq | refine hs_ne (by omega) ?_)) ?_
  refine a_aloadn_0 (pc := 4) dX0_lit_4 ?_
  refine gf_X0_42 (pc := 5) rfl dX0_lit_5 (by first | assumption | (repeat first | assumption | apply hs_eq | refine hs_ne (by omega) ?_)) ?_
  refine a_ldc2 (pc := 8) dX0_lit_8 w_422 ?_
  refine a_lxor (pc := 11) dX0_lit_11 ?_
  refine a_land (pc := 12) dX0_lit_12 ?_
  refine a_topl (bL (clit v)) (bL_andn _ _) ?_
  exact a_lret (pc := 13) dX0_lit_13 rfl (zf hz) k
set_option maxRecDepth 100000 in
set_option maxHeartbeats 4000000 in
theorem x_isDark {G : Cx} {d a : Nat} {h : List va_E} {v : Cv} {Q : Option Value → List va_E → Prop} {r : Nat} (hd : 1 ≤ d) (hz : gz G = false) (hc : cityAt G h a v) (hr : r < 36) (k : Q (some (.int (bI (cK v r)))) h) : AM G yX0_isDark cX0_isDark 2 (some .boolean) d 0 0 [.ref (gB G + a), .int (nI r)] h Q := by
  obtain ⟨d, rfl, he⟩ := dpos hd
  obtain ⟨q0, q1, q2, ok⟩ := id hc
  refine AM.of [some (.ref (gB G + a)), some (.int (nI r))] pnX0 (Nat.le_of_ble_eq_true rfl) (by simp [lsub, lvI, Value.category]) ?_
  refine a_aloadn_0 (pc := 0) dX0_isDark_0 ?_
  refine gf_X0_42 (pc := 1) rfl dX0_isDark_1 (by first | assumption | (repeat first | assumption | apply hs_eq | refine hs_ne (by omega) ?_)) ?_
  refine a_iloadn_1 (pc := 4) dX0_isDark_4 ?_
  refine a_lushr (pc := 5) dX0_isDark_5 ?_
  refine a_lconst (pc := 6) (v := 1) dX0_isDark_6 (by decide) ?_
  refine a_land (pc := 7) dX0_isDark_7 ?_
  refine a_lconst (pc := 8) (v := 0) dX0_isDark_8 (by decide) ?_
  refine a_lcmp (pc := 9) dX0_isDark_9 ?_
  refine a_if_eq (pc := 10) (tgt := 17) dX0_isDark_10 (by decide) (fun c_10 => ?_) (fun c_10 => ?_)
  · rw [lushr_bit _ hr] at c_10
    refine a_iconst (pc := 17) (v := nI 0) dX0_isDark_17 (by decide) ?_
    exact a_zret (pc := 18) dX0_isDark_18 rfl (by first | rfl | exact bI_nar _ | decide) (zf hz) (by rw [c_10] at k; exact k)
  · rw [lushr_bit _ hr, Bool.not_eq_false] at c_10
    refine a_iconst (pc := 13) (v := nI 1) dX0_isDark_13 (by decide) ?_
    refine a_goto (pc := 14) (tgt := 18) dX0_isDark_14 (by decide) ?_
    exact a_zret (pc := 18) dX0_isDark_18 rfl (by first | rfl | exact bI_nar _ | decide) (zf hz) (by rw [c_10] at k; exact k)
set_option maxRecDepth 100000 in
set_option maxHeartbeats 4000000 in
theorem x_isLit {G : Cx} {d a : Nat} {h : List va_E} {v : Cv} {Q : Option Value → List va_E → Prop} {r : Nat} (hd : 2 ≤ d) (hz : gz G = false) (hc : cityAt G h a v) (hr : r < 36) (k : Q (some (.int (bI (clit v r)))) h) : AM G yX0_isLit cX0_isLit 2 (some .boolean) d 0 0 [.ref (gB G + a), .int (nI r)] h Q := by
  obtain ⟨d, rfl, he⟩ := dpos hd
  obtain ⟨q0, q1, q2, ok⟩ := id hc
  refine AM.of [some (.ref (gB G + a)), some (.int (nI r))] pnX0 (Nat.le_of_ble_eq_true rfl) (by simp [lsub, lvI, Value.category]) ?_
  refine a_aloadn_0 (pc := 0) dX0_isLit_0 ?_
  refine cv_X0_50 (pc := 1) rfl dX0_isLit_1 (by first | assumption | (repeat first | assumption | apply hs_eq | refine hs_ne (by omega) ?_)) (Nat.le_of_ble_eq_true rfl) ?_
  refine x_lit he hz hc ?_
  refine a_iloadn_1 (pc := 4) dX0_isLit_4 ?_
  refine a_lushr (pc := 5) dX0_isLit_5 ?_
  refine a_lconst (pc := 6) (v := 1) dX0_isLit_6 (by decide) ?_
  refine a_land (pc := 7) dX0_isLit_7 ?_
  refine a_lconst (pc := 8) (v := 0) dX0_isLit_8 (by decide) ?_
  refine a_lcmp (pc := 9) dX0_isLit_9 ?_
  refine a_if_eq (pc := 10) (tgt := 17) dX0_isLit_10 (by decide) (fun c_10 => ?_) (fun c_10 => ?_)
  · rw [lushr_bit _ hr] at c_10
    refine a_iconst (pc := 17) (v := nI 0) dX0_isLit_17 (by decide) ?_
    exact a_zret (pc := 18) dX0_isLit_18 rfl (by first | rfl | exact bI_nar _ | decide) (zf hz) (by rw [c_10] at k; exact k)
  · rw [lushr_bit _ hr, Bool.not_eq_false] at c_10
    refine a_iconst (pc := 13) (v := nI 1) dX0_isLit_13 (by decide) ?_
    refine a_goto (pc := 14) (tgt := 18) dX0_isLit_14 (by decide) ?_
    exact a_zret (pc := 18) dX0_isLit_18 rfl (by first | rfl | exact bI_nar _ | decide) (zf hz) (by rw [c_10] at k; exact k)
set_option maxRecDepth 100000 in
set_option maxHeartbeats 4000000 in
theorem x_withBit {G : Cx} {d r x : Nat} {h : List va_E} {f : Nat → Bool} {Q : Option Value → List va_E → Prop} (hd : 1 ≤ d) (hz : gz G = false) (hr : r < 36) (hx : x < 2147483648) (k : Q (some (.long (bL (va_up f r (decide (0 < x)))))) h) : AM G yX0_withBit cX0_withBit 6 (some .long) d 0 0 [.long (bL f), .int (nI r), .int (nI x)] h Q := by
  obtain ⟨d, rfl, he⟩ := dpos hd
  refine AM.of [some (.long (bL f)), none, some (.int (nI r)), some (.int (nI x)), none, none] pnX0 (Nat.le_of_ble_eq_true rfl) (by simp [lsub, lvI, Value.category]) ?_
  refine a_lconst (pc := 0) (v := 1) dX0_withBit_0 (by decide) ?_
  refine a_iloadn_2 (pc := 1) dX0_withBit_1 ?_
  refine a_lshl (pc := 2) dX0_withBit_2 ?_
  refine a_lstore_4 (pc := 3) dX0_withBit_3 (by decide) (by first | rfl | trivial) ?_
  refine a_iloadn_3 (pc := 5) dX0_withBit_5 ?_
  refine a_if_le (pc := 6) (tgt := 16) dX0_withBit_6 (by decide) (fun c_6 => ?_) (fun c_6 => ?_)
  · have hx0 := (nI_le0 hx).mp c_6
    subst hx0
    refine a_lloadn_0 (pc := 16) dX0_withBit_16 ?_
    refine a_lload_4 (pc := 17) dX0_withBit_17 ?_
    refine a_ldc2 (pc := 19) dX0_withBit_19 w_422 ?_
    refine a_lxor (pc := 22) dX0_withBit_22 ?_
    refine a_land (pc := 23) dX0_withBit_23 ?_
    refine a_topl _ (bL_clr f hr) ?_
    exact a_lret (pc := 24) dX0_withBit_24 rfl (zf hz) (by first | simpa using k | simpa [hx0] using k)
  · have hx0 : 0 < x := Nat.pos_of_ne_zero (fun q => c_6 ((nI_le0 hx).mpr q))
    refine a_lloadn_0 (pc := 9) dX0_withBit_9 ?_
    refine a_lload_4 (pc := 10) dX0_withBit_10 ?_
    refine a_lor (pc := 12) dX0_withBit_12 ?_
    refine a_topl _ (bL_set f hr) ?_
    refine a_goto (pc := 13) (tgt := 24) dX0_withBit_13 (by decide) ?_
    exact a_lret (pc := 24) dX0_withBit_24 rfl (zf hz) (by first | simpa using k | simpa [hx0] using k)
set_option maxRecDepth 100000 in
set_option maxHeartbeats 4000000 in
theorem x_setWax {G : Cx} {d a : Nat} {h : List va_E} {v : Cv} {Q : Option Value → List va_E → Prop} {r x : Nat} (hd : 2 ≤ d) (hz : gz G = false) (hc : cityAt G h a v) (hr : r < 36) (hx : x ≤ 99) (k : Q none (putC G h a (csW v r x))) : AM G yX0_setWax cX0_setWax 3 none d 0 0 [.ref (gB G + a), .int (nI r), .int (nI x)] h Q := by
  obtain ⟨d, rfl, he⟩ := dpos hd
  obtain ⟨q0, q1, q2, ok⟩ := id hc
  refine AM.of [some (.ref (gB G + a)), some (.int (nI r)), some (.int (nI x))] pnX0 (Nat.le_of_ble_eq_true rfl) (by simp [lsub, lvI, Value.category]) ?_
  refine a_aloadn_0 (pc := 0) dX0_setWax_0 ?_
  refine gf_X0_9 (pc := 1) rfl dX0_setWax_1 (by first | assumption | (repeat first | assumption | apply hs_eq | refine hs_ne (by omega) ?_)) ?_
  refine a_iloadn_1 (pc := 4) dX0_setWax_4 ?_
  refine a_iloadn_2 (pc := 5) dX0_setWax_5 ?_
  refine a_iast (pc := 6) r dX0_setWax_6 rfl hr (by decide) q1 ?_
  refine a_aloadn_0 (pc := 7) dX0_setWax_7 ?_
  refine a_aloadn_0 (pc := 8) dX0_setWax_8 ?_
  refine gf_X0_39 (pc := 9) rfl dX0_setWax_9 (by first | assumption | (repeat first | assumption | apply hs_eq | refine hs_ne (by omega) ?_)) ?_
  refine a_iloadn_1 (pc := 12) dX0_setWax_12 ?_
  refine a_iloadn_2 (pc := 13) dX0_setWax_13 ?_
  refine cs_X0_60 (pc := 14) rfl dX0_setWax_14 (Nat.le_of_ble_eq_true rfl) ?_
  refine x_withBit he hz hr (by omega) ?_
  refine pf_X0_39 (pc := 17) rfl dX0_setWax_17 (by first | assumption | (repeat first | assumption | apply hs_eq | refine hs_ne (by omega) ?_)) ?_
  exact a_vret (pc := 20) dX0_setWax_20 rfl (zf hz) (by rw [upd_nI, wx_up, putC_wo (v' := csW v r x) hc rfl]; exact k)
set_option maxRecDepth 100000 in
set_option maxHeartbeats 4000000 in
theorem x_addWax {G : Cx} {d a : Nat} {h : List va_E} {v : Cv} {Q : Option Value → List va_E → Prop} {r x : Nat} (hd : 3 ≤ d) (hz : gz G = false) (hc : cityAt G h a v) (hr : r < 36) (hx : x < 1000) (k : Q none (putC G h a (csW v r (min 99 (cW v r + x))))) : AM G yX0_addWax cX0_addWax 3 none d 0 0 [.ref (gB G + a), .int (nI r), .int (nI x)] h Q := by
  obtain ⟨d, rfl, he⟩ := dpos hd
  obtain ⟨q0, q1, q2, ok⟩ := id hc
  refine AM.of [some (.ref (gB G + a)), some (.int (nI r)), some (.int (nI x))] pnX0 (Nat.le_of_ble_eq_true rfl) (by simp [lsub, lvI, Value.category]) ?_
  refine a_aloadn_0 (pc := 0) dX0_addWax_0 ?_
  refine a_iloadn_1 (pc := 1) dX0_addWax_1 ?_
  refine a_bipush (pc := 2) (v := nI 99) dX0_addWax_2 (by decide) ?_
  refine a_aloadn_0 (pc := 4) dX0_addWax_4 ?_
  refine gf_X0_9 (pc := 5) rfl dX0_addWax_5 (by first | assumption | (repeat first | assumption | apply hs_eq | refine hs_ne (by omega) ?_)) ?_
  refine a_iloadn_1 (pc := 8) dX0_addWax_8 ?_
  refine a_iald (pc := 9) r dX0_addWax_9 rfl hr (by decide) q1 ?_
  refine a_iloadn_2 (pc := 10) dX0_addWax_10 ?_
  refine a_iadd (pc := 11) dX0_addWax_11 ?_
  refine a_mminR (pc := 12) dX0_addWax_12 w_602 (Nat.le_of_ble_eq_true rfl) ?_
  refine a_topi (nI (min 99 (cW v r + x))) (by have := ok.1 r; rw [nI_add, mmin_nI (by decide) (by omega)]) ?_
  refine cv_X0_70 (pc := 15) rfl dX0_addWax_15 (by first | assumption | (repeat first | assumption | apply hs_eq | refine hs_ne (by omega) ?_)) (Nat.le_of_ble_eq_true rfl) ?_
  refine x_setWax he hz hc hr (by omega) ?_
  exact a_vret (pc := 18) dX0_addWax_18 rfl (zf hz) k
