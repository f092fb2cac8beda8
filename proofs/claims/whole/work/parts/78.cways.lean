/-! WAYS (55): now (1), reached (56) -/
theorem pnX10 : plainName RX10 = true := by decide
theorem spr_at (S : Nat → Bool) {i : Nat} (hi : i < 36) : ((decide (6 ≤ i) && S (i - 6)) || (decide (i + 6 < 36) && S (i + 6)) || ((decide (1 ≤ i) && (S (i - 1) && decide ((i - 1) % 6 ≠ 5))) || ((decide (i + 1 < 36) && S (i + 1)) && decide ((i + 1) % 6 ≠ 0)))) = nb S i := by
  rw [Bool.eq_iff_iff, nb_ways hi]
  simp only [Bool.or_eq_true, Bool.and_eq_true, decide_eq_true_eq]
  constructor
  · rintro ((⟨a, b⟩ | ⟨a, b⟩) | (⟨a, b, c⟩ | ⟨⟨a, b⟩, c⟩))
    · exact ⟨0, i - 6, by decide, by show (if i < 6 then none else some (i - 6)) = _; rw [if_neg (by omega)], b⟩
    · exact ⟨2, i + 6, by decide, by show (if i < 30 then some (i + 6) else none) = _; rw [if_pos (by omega)], b⟩
    · exact ⟨3, i - 1, by decide, by show (if i % 6 = 0 then none else some (i - 1)) = _; rw [if_neg (by omega)], b⟩
    · exact ⟨1, i + 1, by decide, by show (if i % 6 = 5 then none else some (i + 1)) = _; rw [if_neg (by omega)], b⟩
  · rintro ⟨w, o, hw, hb, hs⟩
    rcases (show w = 0 ∨ w = 1 ∨ w = 2 ∨ w = 3 by omega) with rfl | rfl | rfl | rfl
    · have hb : (if i < 6 then none else some (i - 6)) = some o := hb
      by_cases q : i < 6
      · rw [if_pos q] at hb; cases hb
      · rw [if_neg q] at hb; cases hb; exact Or.inl (Or.inl ⟨by omega, hs⟩)
    · have hb : (if i % 6 = 5 then none else some (i + 1)) = some o := hb
      by_cases q : i % 6 = 5
      · rw [if_pos q] at hb; cases hb
      · rw [if_neg q] at hb; cases hb; exact Or.inr (Or.inr ⟨⟨by omega, hs⟩, by omega⟩)
    · have hb : (if i < 30 then some (i + 6) else none) = some o := hb
      by_cases q : i < 30
      · rw [if_pos q] at hb; cases hb; exact Or.inl (Or.inr ⟨by omega, hs⟩)
      · rw [if_neg q] at hb; cases hb
    · have hb : (if i % 6 = 0 then none else some (i - 1)) = some o := hb
      by_cases q : i % 6 = 0
      · rw [if_pos q] at hb; cases hb
      · rw [if_neg q] at hb; cases hb; exact Or.inr (Or.inl ⟨by omega, hs, by omega⟩)
theorem spr_bL (S : Nat → Bool) : ((bL S <<< ((nI 6).toInt64 &&& 63) ||| ((bL S).toUInt64 >>> ((nI 6).toInt64.toUInt64 &&& Int64.toUInt64 63)).toInt64) ||| ((bL S &&& (-34905131041)) <<< ((nI 1).toInt64 &&& 63) ||| ((bL S &&& (-1090785346)).toUInt64 >>> ((nI 1).toInt64.toUInt64 &&& Int64.toUInt64 63)).toInt64)) &&& 68719476735 = bL (nb S) := by
  apply tb_ext
  intro i hi
  have K3 : ∀ i : Fin 64, tb 68719476735 i = decide (i.val < 36) := by decide +kernel
  have K1 : ∀ i : Fin 36, tb (-34905131041) i = decide (i.val % 6 ≠ 5) := by decide +kernel
  have K2 : ∀ i : Fin 36, tb (-1090785346) i = decide (i.val % 6 ≠ 0) := by decide +kernel
  have k3 : tb 68719476735 i = decide (i < 36) := K3 ⟨i, hi⟩
  simp only [tb_and, tb_or, tb_shl (k := 6) (by decide), tb_ushr (k := 6) (by decide), tb_shl (k := 1) (by decide), tb_ushr (k := 1) (by decide), tb_bL, k3]
  by_cases h36 : i < 36
  · have k1 : tb (-34905131041) (i - 1) = decide ((i - 1) % 6 ≠ 5) := K1 ⟨i - 1, by omega⟩
    have k2 : ((decide (i + 1 < 36) && S (i + 1)) && tb (-1090785346) (i + 1)) = ((decide (i + 1 < 36) && S (i + 1)) && decide ((i + 1) % 6 ≠ 0)) := by
      by_cases q : i + 1 < 36
      · rw [show tb (-1090785346) (i + 1) = decide ((i + 1) % 6 ≠ 0) from K2 ⟨i + 1, q⟩]
      · rw [decide_eq_false q]; rfl
    rw [k1, k2, ← spr_at S h36, decide_eq_true hi, decide_eq_true h36, decide_eq_true (show i - 6 < 36 by omega), decide_eq_true (show i - 1 < 36 by omega)]
    simp only [Bool.true_and, Bool.and_true]
  · rw [decide_eq_false h36]
    simp
theorem tb_neg (x : Int64) (i : Nat) : tb (-x) i = (tb x i ^^ decide (i < 64) && decide (∃ j, j < i ∧ tb x j = true)) := by
  unfold tb
  rw [Int64.toBitVec_neg, BitVec.getLsbD_neg]
theorem least_b {S : Nat → Bool} : ∀ n, (∃ k, k < n ∧ S k = true) → ∃ j, j < n ∧ S j = true ∧ ∀ i, i < j → S i = false
  | 0, ⟨k, hk, _⟩ => absurd hk (Nat.not_lt_zero k)
  | n + 1, ⟨k, hk, h⟩ => by
    by_cases q : ∃ k, k < n ∧ S k = true
    · obtain ⟨j, h1, h2⟩ := least_b n q
      exact ⟨j, by omega, h2⟩
    · have e : k = n := by
        rcases Nat.lt_or_ge k n with z | z
        · exact absurd ⟨k, z, h⟩ q
        · omega
      subst e
      exact ⟨k, Nat.lt_succ_self k, h, fun i hi => by
        cases z : S i with
        | false => rfl
        | true => exact absurd ⟨i, hi, z⟩ q⟩
theorem low_bL {S : Nat → Bool} (h : ∃ k, k < 36 ∧ S k = true) : ∃ j, j < 36 ∧ S j = true ∧ bL S &&& -bL S = bL (fun i => decide (i = j)) := by
  obtain ⟨j, h1, h2, h3⟩ := least_b 36 h
  refine ⟨j, h1, h2, tb_ext (fun i hi => ?_)⟩
  rw [tb_and, tb_neg, tb_bL, tb_bL, decide_eq_true hi, Bool.true_and]
  rcases Nat.lt_trichotomy i j with q | q | q
  · rw [h3 i q, decide_eq_false (show ¬ i = j by omega)]; simp
  · subst q
    rw [h2, decide_eq_true h1, decide_eq_false (fun ⟨m, hm, z⟩ => by rw [tb_bL, h3 m hm, Bool.and_false] at z; cases z)]; simp
  · rw [decide_eq_true (show ∃ m, m < i ∧ tb (bL S) m = true from ⟨j, q, by rw [tb_bL, h2, decide_eq_true h1]; rfl⟩), decide_eq_false (show ¬ i = j by omega)]
    cases (decide (i < 36) && S i) <;> simp
theorem open_bL (v : Cv) : (68719476735 : Int64) &&& ((bL (cK v) ||| bL (clit v)) ^^^ (-1)) = bL (opV v) := by
  rw [show (68719476735 : Int64) = bL (fun _ => true) by decide +kernel, bL_or, bL_andn]
  apply bL_congr
  intro i _
  unfold opV
  cases cK v i <;> cases clit v i <;> rfl
theorem gates_bL (v : Cv) : (68208171135 : Int64) ||| bL (nb (cK v)) = bL (ga v) := by
  rw [show (68208171135 : Int64) = bL (fun i => decide (0 < edN i)) by decide +kernel, bL_or]
  apply bL_congr
  intro i _
  unfold ga nb dB
  rw [Bool.eq_iff_iff, Bool.or_eq_true, decide_eq_true_eq, decide_eq_true_eq, decide_eq_true_eq]
  show _ ∨ 0 < lB (cK v) i ↔ 0 < lB (cK v) i + edN i
  omega
theorem icl_sB (Op B : Nat → Bool) (n k : Nat) : (icl Op B n k || fr Op B n k) = icl Op B (n + 1) k := by
  show _ = (icl Op B n k || itr Op B n k)
  unfold fr
  cases icl Op B n k <;> cases itr Op B n k <;> rfl
theorem fr_sB (Op B : Nat → Bool) (n k : Nat) : fr Op B (n + 1) k = ((nb (fr Op B n) k && Op k) && !icl Op B (n + 1) k) := by
  rw [Bool.eq_iff_iff, fr_s, Bool.and_eq_true, Bool.and_eq_true, Bool.not_eq_true']
  constructor
  · rintro ⟨a, b, c⟩; exact ⟨⟨b, a⟩, c⟩
  · rintro ⟨⟨b, a⟩, c⟩; exact ⟨a, b, c⟩
theorem CUF_hit {Op Ga : Nat → Bool} {r s n f : Nat} {P : Nat → Nat} (H : PTH Op Ga r s P) (h : CUF Ga r (n + 1) f Op) : ∃ j, j ≤ s ∧ P j ≠ r ∧ CUF Ga r n 0 (mn1 Op (P j)) := by
  obtain ⟨l, h1, h2, h3⟩ := h
  obtain ⟨j, hj, q⟩ := H.hit h3
  refine ⟨j, hj, (h2 _ q).2.2.1, l.filter (fun x => decide (x ≠ P j)), by have := filt_lt (P j) l q; omega, fun k hk => ?_, by rw [mn_rm Op (P j) l q]; exact h3⟩
  obtain ⟨b1, b2⟩ := List.mem_filter.mp hk
  obtain ⟨c1, c2, c3, c4⟩ := h2 k b1
  have b2 : k ≠ P j := by simpa using b2
  refine ⟨Nat.zero_le k, c2, c3, ?_⟩
  unfold mn1
  rw [c4, decide_eq_false b2]; rfl
theorem CUF_h0 {Op Ga : Nat → Bool} {r s f : Nat} {P : Nat → Nat} (H : PTH Op Ga r s P) (h : CUF Ga r 0 f Op) : False := by
  have h3 := CUF_0 h
  obtain ⟨j, hj, q⟩ := H.hit (l := []) (by rw [mn_nil]; exact h3)
  cases q
def pI : Nat → Int32
  | 0 => -1
  | e + 1 => nI e
theorem pI_sub (s : Nat) : nI s - nI 1 = pI s := by
  cases s with
  | zero => decide
  | succ s => exact pk_sub (by omega)
theorem pI_inc (e : Nat) : nI e + Int32.ofInt (-1) = pI e := by
  cases e with
  | zero => decide
  | succ e => exact nI_dec (by omega)
def YQ (G : Cx) (h0 h : List va_E) (v : Cv) (R : Nat → Int64) : Prop := h.length = h0.length ∧ (∀ k, k ≠ 56 → h[k]? = h0[k]?) ∧ cityAt G h 1 v ∧ h[55]? = some (.inr (10, [.ref (gB G + 1), .ref (gB G + 56)])) ∧ h[56]? = some (.inl (gc G 1, 36, .inr (.inl R)))
section YQs
variable {G : Cx} {y : MethodName} {cc : ByteArray} {mL : Nat} {rt : Option FieldType} {R : Room} {Z : List Frame → Array Value → State → State → Prop} {cn sn pc : Nat} {ls : List (Option Value)} {st : List Value} {h h0 : List va_E} {v : Cv} {W : Nat → Int64}
theorem YQ.now (H : YQ G h0 h v W) : cityAt G h 1 v := H.2.2.1
theorem YQ.ob (H : YQ G h0 h v W) : h[55]? = some (.inr (10, [.ref (gB G + 1), .ref (gB G + 56)])) := H.2.2.2.1
theorem yw_st {j : Nat} {x : Int64} (H : YQ G h0 h v W) (hd : decode cc pc = .ok (.lastore, 1)) (hj : j < 36) (kk : ∀ h1, YQ G h0 h1 v (vp_updL W j x) → AW G y cc mL rt R Z cn sn (pc + 1) ls st h1) : AW G y cc mL rt R Z cn sn pc ls (.long x :: .int (nI j) :: .ref (gB G + 56) :: st) h := by
  obtain ⟨a1, a2, a3, a4, a5⟩ := H
  exact b_last j hd a5 rfl hj (by decide) (kk _ ⟨by rw [List.length_set]; exact a1, fun k hk => hs_ne (fun q => hk q.symm) (a2 k hk), cityAt_of (fun k hk => hs_ne (by omega) rfl) a3, hs_ne (by omega) a4, hs_eq a5⟩)
theorem yw_ld {j : Nat} (H : YQ G h0 h v W) (hd : decode cc pc = .ok (.laload, 1)) (hj : j < 36) (kk : AW G y cc mL rt R Z cn sn (pc + 1) ls (.long (W j) :: st) h) : AW G y cc mL rt R Z cn sn pc ls (.int (nI j) :: .ref (gB G + 56) :: st) h :=
  b_lald j hd H.2.2.2.2 rfl hj (by decide) kk
end YQs
set_option maxRecDepth 100000 in
set_option maxHeartbeats 4000000 in
theorem w_spread {G : Cx} {d : Nat} {h : List va_E} {Q : Option Value → List va_E → Prop} {S : Nat → Bool} (hd : 1 ≤ d) (hz : gz G = false) (k : Q (some (.long (bL (nb S)))) h) : AM G yX10_spread cX10_spread 6 (some .long) d 0 0 [.long (bL (S))] h Q := by
  obtain ⟨d, rfl, he⟩ := dpos hd
  refine AM.of [some (.long (bL (S))), none, none, none, none, none] pnX10 (Nat.le_of_ble_eq_true rfl) (by simp [lsub, lvI, Value.category]) ?_
  refine a_lloadn_0 (pc := 0) dX10_spread_0 ?_
  refine a_bipush (pc := 1) (v := nI 6) dX10_spread_1 (by decide) ?_
  refine a_lshl (pc := 3) dX10_spread_3 ?_
  refine a_lloadn_0 (pc := 4) dX10_spread_4 ?_
  refine a_bipush (pc := 5) (v := nI 6) dX10_spread_5 (by decide) ?_
  refine a_lushr (pc := 7) dX10_spread_7 ?_
  refine a_lor (pc := 8) dX10_spread_8 ?_
  refine a_lstoren_2 (pc := 9) dX10_spread_9 (by decide) (by first | rfl | trivial) ?_
  refine a_lloadn_0 (pc := 10) dX10_spread_10 ?_
  refine a_ldc2 (pc := 11) dX10_spread_11 w_708 ?_
  refine a_land (pc := 14) dX10_spread_14 ?_
  refine a_iconst (pc := 15) (v := nI 1) dX10_spread_15 (by decide) ?_
  refine a_lshl (pc := 16) dX10_spread_16 ?_
  refine a_lloadn_0 (pc := 17) dX10_spread_17 ?_
  refine a_ldc2 (pc := 18) dX10_spread_18 w_709 ?_
  refine a_land (pc := 21) dX10_spread_21 ?_
  refine a_iconst (pc := 22) (v := nI 1) dX10_spread_22 (by decide) ?_
  refine a_lushr (pc := 23) dX10_spread_23 ?_
  refine a_lor (pc := 24) dX10_spread_24 ?_
  refine a_lstore_4 (pc := 25) dX10_spread_25 (by decide) (by first | rfl | trivial) ?_
  refine a_lloadn_2 (pc := 27) dX10_spread_27 ?_
  refine a_lload_4 (pc := 28) dX10_spread_28 ?_
  refine a_lor (pc := 30) dX10_spread_30 ?_
  refine a_ldc2 (pc := 31) dX10_spread_31 w_693 ?_
  refine a_land (pc := 34) dX10_spread_34 ?_
  refine a_topl (bL (nb S)) (spr_bL S) ?_
  exact a_lret (pc := 35) dX10_spread_35 rfl (zf hz) k
set_option maxRecDepth 100000 in
set_option maxHeartbeats 4000000 in
theorem w_lowest {G : Cx} {d : Nat} {h : List va_E} {Q : Option Value → List va_E → Prop} {S : Nat → Bool} (hd : 1 ≤ d) (hz : gz G = false) (hS : ∃ k, k < 36 ∧ S k = true) (k : ∀ j, j < 36 → S j = true → Q (some (.long (bL (fun i => decide (i = j))))) h) : AM G yX10_lowest cX10_lowest 2 (some .long) d 0 0 [.long (bL (S))] h Q := by
  obtain ⟨d, rfl, he⟩ := dpos hd
  obtain ⟨j9, h1, h2, e9⟩ := low_bL hS
  refine AM.of [some (.long (bL (S))), none] pnX10 (Nat.le_of_ble_eq_true rfl) (by simp [lsub, lvI, Value.category]) ?_
  refine a_lloadn_0 (pc := 0) dX10_lowest_0 ?_
  refine a_lloadn_0 (pc := 1) dX10_lowest_1 ?_
  refine a_lneg (pc := 2) dX10_lowest_2 ?_
  
  refine a_land (pc := 3) dX10_lowest_3 ?_
  exact a_lret (pc := 4) dX10_lowest_4 rfl (zf hz) (by rw [e9]; exact k j9 h1 h2)
set_option maxRecDepth 100000 in
set_option maxHeartbeats 4000000 in
theorem w_open {G : Cx} {d : Nat} {h h0 : List va_E} {v : Cv} {R : Nat → Int64} {Q : Option Value → List va_E → Prop} (hd : 2 ≤ d) (hz : gz G = false) (hm : YQ G h0 h v R) (k : Q (some (.long (bL (opV v)))) h) : AM G yX10_open cX10_open 1 (some .long) d 0 0 [.ref (gB G + 55)] h Q := by
  obtain ⟨d, rfl, he⟩ := dpos hd
  refine AM.of [some (.ref (gB G + 55))] pnX10 (Nat.le_of_ble_eq_true rfl) (by simp [lsub, lvI, Value.category]) ?_
  refine a_ldc2 (pc := 0) dX10_open_0 w_693 ?_
  refine a_aloadn_0 (pc := 3) dX10_open_3 ?_
  refine gf_X10_15 (pc := 4) rfl dX10_open_4 hm.ob ?_
  refine gf_X10_51 (pc := 7) rfl dX10_open_7 hm.now.1 ?_
  refine a_aloadn_0 (pc := 10) dX10_open_10 ?_
  refine gf_X10_15 (pc := 11) rfl dX10_open_11 hm.ob ?_
  refine cv_X10_55 (pc := 14) rfl dX10_open_14 hm.now.1 (Nat.le_of_ble_eq_true rfl) ?_
  refine x_lit (by omega) hz hm.now ?_
  
  refine a_lor (pc := 17) dX10_open_17 ?_
  refine a_topl (bL (fun i => (cK v) i || (clit v) i)) (bL_or _ _) ?_
  refine a_ldc2 (pc := 18) dX10_open_18 w_695 ?_
  refine a_lxor (pc := 21) dX10_open_21 ?_
  refine a_land (pc := 22) dX10_open_22 ?_
  refine a_topl (bL (opV v)) (by rw [← bL_or]; exact open_bL v) ?_
  exact a_lret (pc := 23) dX10_open_23 rfl (zf hz) k
set_option maxRecDepth 100000 in
set_option maxHeartbeats 4000000 in
theorem w_gates {G : Cx} {d : Nat} {h h0 : List va_E} {v : Cv} {R : Nat → Int64} {Q : Option Value → List va_E → Prop} (hd : 2 ≤ d) (hz : gz G = false) (hm : YQ G h0 h v R) (k : Q (some (.long (bL (ga v)))) h) : AM G yX10_gates cX10_gates 1 (some .long) d 0 0 [.ref (gB G + 55)] h Q := by
  obtain ⟨d, rfl, he⟩ := dpos hd
  refine AM.of [some (.ref (gB G + 55))] pnX10 (Nat.le_of_ble_eq_true rfl) (by simp [lsub, lvI, Value.category]) ?_
  refine a_ldc2 (pc := 0) dX10_gates_0 w_704 ?_
  refine a_aloadn_0 (pc := 3) dX10_gates_3 ?_
  refine gf_X10_15 (pc := 4) rfl dX10_gates_4 hm.ob ?_
  refine gf_X10_51 (pc := 7) rfl dX10_gates_7 hm.now.1 ?_
  refine cs_X10_62 (pc := 10) rfl dX10_gates_10 (Nat.le_of_ble_eq_true rfl) ?_
  refine w_spread (by omega) hz ?_
  refine a_lor (pc := 13) dX10_gates_13 ?_
  refine a_topl (bL (ga v)) (gates_bL v) ?_
  exact a_lret (pc := 14) dX10_gates_14 rfl (zf hz) k
set_option maxRecDepth 100000 in
set_option maxHeartbeats 4000000 in
theorem w_wayBack {G : Cx} {d : Nat} {h h0 : List va_E} {v : Cv} {R : Nat → Int64} {Q : Option Value → List va_E → Prop} (hd : 3 ≤ d) (hz : gz G = false) (hm : YQ G h0 h v R) {Op Ga : Nat → Bool} {r s x9 : Nat} (hs : s < 36) (hR : ∀ j, j < s → R j = bL (fr Op (fun k => decide (k = r)) j)) (hx : x9 < 36 ∧ fr Op (fun k => decide (k = r)) s x9 = true ∧ Ga x9 = true) (k : ∀ P W, PTH Op Ga r s P → (∀ k, k < 36 → (W k = true ↔ ∃ j, j ≤ s ∧ P j = k)) → Q (some (.long (bL W))) h) : AM G yX10_wayBack cX10_wayBack 9 (some .long) d 0 0 [.ref (gB G + 55), .int (nI (s)), .long (bL (fun i => decide (i = x9)))] h Q := by
  obtain ⟨d, rfl, he⟩ := dpos hd
  have lp : ∀ (e x : Nat) (P : Nat → Nat) (W : Nat → Bool), e ≤ s → P e = x → (∀ j, e ≤ j → j ≤ s → P j < 36 ∧ fr Op (fun k => decide (k = r)) j (P j) = true) → (∀ j, e ≤ j → j < s → bes (P (j + 1)) (P j) = true) → Ga (P s) = true → (∀ k, k < 36 → (W k = true ↔ ∃ j, e ≤ j ∧ j ≤ s ∧ P j = k)) → AW G yX10_wayBack cX10_wayBack 9 (some .long) (rmx (d + 1) 0 0) (ZQ G 0 0 (h.length + 0) Q) 0 0 11 [some (.ref (gB G + 55)), some (.int (nI (s))), none, none, some (.long (bL (fun i => decide (i = x)))), none, some (.long (bL (W))), none, some (.int (pI e))] [] h := by
    intro e
    induction e with
    | zero =>
      intro x P W he9 hx hP1 hP2 hP3 hW
      refine a_iload_8 (pc := 11) dX10_wayBack_11 ?_
      refine a_if_lt (pc := 13) (tgt := 47) dX10_wayBack_13 (by decide) (fun c_13 => ?_) (fun c_13 => absurd c_13 (by decide))
      refine a_lload_6 (pc := 47) dX10_wayBack_47 ?_
      exact a_lret (pc := 49) dX10_wayBack_49 rfl (zf hz) (k P W ⟨fun j hj => hP1 j (Nat.zero_le j) hj, fun j hj => hP2 j (Nat.zero_le j) hj, hP3⟩ (fun q hq => (hW q hq).trans ⟨fun ⟨j, _, z⟩ => ⟨j, z⟩, fun ⟨j, z⟩ => ⟨j, Nat.zero_le j, z⟩⟩))
    | succ e ih =>
      intro x P W he9 hx hP1 hP2 hP3 hW
      obtain ⟨x36, hfx⟩ := hP1 (e + 1) (by omega) (by omega)
      rw [hx] at x36 hfx
      have ex9 : ∃ k, k < 36 ∧ (nb (fun i => decide (i = x)) k && fr Op (fun k => decide (k = r)) e k) = true := by
        obtain ⟨_, q, _⟩ := fr_s.mp hfx
        obtain ⟨i, hi, q1, q2⟩ := nb_iff.mp q
        exact ⟨i, hi, by rw [q1, nb_iff.mpr ⟨x, x36, decide_eq_true rfl, by rw [bes_sym hi x36]; exact q2⟩]; rfl⟩
      refine a_iload_8 (pc := 11) dX10_wayBack_11 ?_
      refine n_if_lt (tgt := 47) dX10_wayBack_13 (by decide) (by omega) ?_
      refine a_lload_4 (pc := 16) dX10_wayBack_16 ?_
      refine cs_X10_62 (pc := 18) rfl dX10_wayBack_18 (Nat.le_of_ble_eq_true rfl) ?_
      refine w_spread (by omega) hz ?_
      refine a_aloadn_0 (pc := 21) dX10_wayBack_21 ?_
      refine gf_X10_9 (pc := 22) rfl dX10_wayBack_22 hm.ob ?_
      
      refine a_iload_8 (pc := 25) dX10_wayBack_25 ?_
      refine yw_ld (j := e) hm dX10_wayBack_27 (by omega) ?_
      refine a_topl (bL (fr Op (fun k => decide (k = r)) e)) (hR e (by omega)) ?_
      refine a_land (pc := 28) dX10_wayBack_28 ?_
      refine a_topl (bL (fun i => (nb (fun i => decide (i = x))) i && (fr Op (fun k => decide (k = r)) e) i)) (bL_and _ _) ?_
      refine cs_X10_70 (pc := 29) rfl dX10_wayBack_29 (Nat.le_of_ble_eq_true rfl) ?_
      refine w_lowest (by omega) hz ex9 (fun j9 h1_j9 h2_j9 => ?_)
      have j9b := Bool.and_eq_true_iff.mp h2_j9
      refine a_lstore_4 (pc := 32) dX10_wayBack_32 (by decide) (by first | rfl | trivial) ?_
      refine a_lload_6 (pc := 34) dX10_wayBack_34 ?_
      refine a_lload_4 (pc := 36) dX10_wayBack_36 ?_
      refine a_lor (pc := 38) dX10_wayBack_38 ?_
      refine a_topl (bL (fun i => (W) i || (fun i => decide (i = j9)) i)) (bL_or _ _) ?_
      refine a_lstore_6 (pc := 39) dX10_wayBack_39 (by decide) (by first | rfl | trivial) ?_
      refine a_iinc_8 (pc := 41) (v := pI e) dX10_wayBack_41 (pI_inc e) (by decide) (by first | rfl | trivial) ?_
      refine a_goto (pc := 44) (tgt := 11) dX10_wayBack_44 (by decide) ?_
      refine ih j9 (va_up P e j9) _ (by omega) up_eq (fun j z1 z2 => ?_) (fun j z1 z2 => ?_) (by rw [up_ne (by omega)]; exact hP3) (fun q hq => ?_)
      · by_cases z : j = e
        · subst z; rw [up_eq]; exact ⟨h1_j9, j9b.2⟩
        · rw [up_ne z]; exact hP1 j (by omega) z2
      · rw [up_ne (show j + 1 ≠ e by omega)]
        by_cases z : j = e
        · subst z
          rw [up_eq, hx]
          obtain ⟨i, hi, q1, q2⟩ := nb_iff.mp j9b.1
          have q1 : i = x := of_decide_eq_true q1
          subst q1
          rw [bes_sym hi h1_j9]; exact q2
        · rw [up_ne z]; exact hP2 j (by omega) z2
      · show (W q || decide (q = j9)) = true ↔ _
        rw [Bool.or_eq_true, hW q hq, decide_eq_true_eq]
        constructor
        · rintro (⟨j, z1, z2, z3⟩ | z)
          · exact ⟨j, by omega, z2, by rw [up_ne (by omega)]; exact z3⟩
          · exact ⟨e, Nat.le_refl e, by omega, by rw [up_eq]; exact z.symm⟩
        · rintro ⟨j, z1, z2, z3⟩
          by_cases z : j = e
          · subst z; rw [up_eq] at z3; exact Or.inr z3.symm
          · rw [up_ne z] at z3; exact Or.inl ⟨j, by omega, z2, z3⟩
  refine AM.of [some (.ref (gB G + 55)), some (.int (nI (s))), some (.long (bL (fun i => decide (i = x9)))), none, none, none, none, none, none] pnX10 (Nat.le_of_ble_eq_true rfl) (by simp [lsub, lvI, Value.category]) ?_
  refine a_lloadn_2 (pc := 0) dX10_wayBack_0 ?_
  refine a_lstore_4 (pc := 1) dX10_wayBack_1 (by decide) (by first | rfl | trivial) ?_
  refine a_lloadn_2 (pc := 3) dX10_wayBack_3 ?_
  refine a_lstore_6 (pc := 4) dX10_wayBack_4 (by decide) (by first | rfl | trivial) ?_
  refine a_iloadn_1 (pc := 6) dX10_wayBack_6 ?_
  refine a_iconst (pc := 7) (v := nI 1) dX10_wayBack_7 (by decide) ?_
  refine a_isub (pc := 8) dX10_wayBack_8 ?_
  refine a_topi (pI s) (pI_sub s) ?_
  refine a_istore_8 (pc := 9) dX10_wayBack_9 (by decide) (by first | rfl | trivial) ?_
  refine a_ls (ls' := [some _, some _, none, none, some _, none, some _, none, some _, none]) ⟨rfl, rfl, rfl, rfl, rfl, trivial⟩ ?_
  exact lp s x9 (fun _ => x9) (fun i => decide (i = x9)) (Nat.le_refl s) rfl (fun j z1 z2 => by rw [show j = s by omega]; exact ⟨hx.1, hx.2.1⟩) (fun j z1 z2 => by omega) hx.2.2 (fun q hq => ⟨fun z => ⟨s, Nat.le_refl s, Nat.le_refl s, (of_decide_eq_true z).symm⟩, fun ⟨j, z1, z2, z3⟩ => decide_eq_true z3.symm⟩)
theorem vupL_eq {f : Nat → Int64} {j : Nat} {x : Int64} : vp_updL f j x j = x := if_pos rfl
theorem vupL_ne {f : Nat → Int64} {i j : Nat} {x : Int64} (h : i ≠ j) : vp_updL f j x i = f i := if_neg h
set_option maxRecDepth 100000 in
set_option maxHeartbeats 4000000 in
theorem w_shortestWay {G : Cx} {d : Nat} {h h0 : List va_E} {v : Cv} {R : Nat → Int64} {Q : Option Value → List va_E → Prop} (hd : 4 ≤ d) (hz : gz G = false) (hm : YQ G h0 h v R) {Op Ga : Nat → Bool} {r : Nat} (hGa : Ga = ga v) (hr : r < 36) (k0 : ∀ h1 R1, NWY Op Ga r → YQ G h0 h1 v R1 → Q (some (.long 0)) h1) (k1 : ∀ h1 R1 s P W, PTH Op Ga r s P → (∀ m, m < s → ∀ k, k < 36 → fr Op (fun k => decide (k = r)) m k = true → Ga k = false) → (∀ k, k < 36 → (W k = true ↔ ∃ j, j ≤ s ∧ P j = k)) → YQ G h0 h1 v R1 → Q (some (.long (bL W))) h1) : AM G yX10_shortestWay cX10_shortestWay 11 (some .long) d 0 0 [.ref (gB G + 55), .int (nI (r)), .long (bL (Op))] h Q := by
  obtain ⟨d, rfl, he⟩ := dpos hd
  have lp : ∀ (n : Nat) (e : Nat) (R1 : Nat → Int64) (h1 : List va_E), 37 - e < n → (e ≤ 36) → (∀ j, j < e → R1 j = bL (fr Op (fun k => decide (k = r)) j)) → (∀ m, m < e → ∀ k, k < 36 → fr Op (fun k => decide (k = r)) m k = true → Ga k = false) → (∀ m, m < e → ∃ k, k < 36 ∧ fr Op (fun k => decide (k = r)) m k = true) → (YQ G h0 h1 v R1) → AW G yX10_shortestWay cX10_shortestWay 11 (some .long) (rmx (d + 1) 0 0) (ZQ G 0 0 (h.length + 0) Q) 0 0 19 [some (.ref (gB G + 55)), some (.int (nI (r))), some (.long (bL (Op))), none, some (.long (bL (Ga))), none, some (.long (bL (icl Op (fun k => decide (k = r)) e))), none, some (.long (bL (fr Op (fun k => decide (k = r)) e))), none, some (.int (nI (e)))] [] h1 := by
    intro n
    induction n with
    | zero => intro e R1 h1 hn; exact absurd hn (Nat.not_lt_zero _)
    | succ n ih =>
      intro e R1 h1 hn hi hR hG hE hm1
      refine a_iload_10 (pc := 19) dX10_shortestWay_19 ?_
      refine a_bipush (pc := 21) (v := nI 36) dX10_shortestWay_21 (by decide) ?_
      refine n_icmp_ge (tgt := 96) dX10_shortestWay_23 (by decide) (by omega) (by decide) (fun c_23 => ?_) (fun c_23 => ?_)
      · have n36 : ∀ k, k < 36 → fr Op (fun k => decide (k = r)) e k = false := fun q hq => by
          have := icl_cnt e hE
          have full := ctn_full (p := icl Op (fun k => decide (k = r)) e) 36 (by omega) q hq
          have i36 : e = 36 := by omega
          subst i36
          unfold fr
          rw [full]; simp
        refine a_lconst (pc := 96) (v := 0) dX10_shortestWay_96 (by decide) ?_
        exact a_lret (pc := 97) dX10_shortestWay_97 rfl (zf hz) (k0 _ _ (no_way (e := e) (by omega) n36 hG) hm1)
      · refine a_lload_8 (pc := 26) dX10_shortestWay_26 ?_
        refine a_lconst (pc := 28) (v := 0) dX10_shortestWay_28 (by decide) ?_
        refine a_lcmp (pc := 29) dX10_shortestWay_29 ?_
        refine a_if_eq (pc := 30) (tgt := 96) dX10_shortestWay_30 (by decide) (fun c_30 => ?_) (fun c_30 => ?_)
        · rw [bit_0] at c_30
          have n36 := c_30
          refine a_lconst (pc := 96) (v := 0) dX10_shortestWay_96 (by decide) ?_
          exact a_lret (pc := 97) dX10_shortestWay_97 rfl (zf hz) (k0 _ _ (no_way (e := e) (by omega) n36 hG) hm1)
        · rw [bit_0] at c_30
          have e9 : ∃ k, k < 36 ∧ fr Op (fun k => decide (k = r)) e k = true := Classical.byContradiction (fun z => c_30 (fun q hq => by
            cases y : fr Op (fun k => decide (k = r)) e q with
            | false => rfl
            | true => exact absurd ⟨q, hq, y⟩ z))
          refine a_aloadn_0 (pc := 33) dX10_shortestWay_33 ?_
          refine gf_X10_9 (pc := 34) rfl dX10_shortestWay_34 hm1.ob ?_
          refine a_iload_10 (pc := 37) dX10_shortestWay_37 ?_
          refine a_lload_8 (pc := 39) dX10_shortestWay_39 ?_
          refine yw_st (j := e) hm1 dX10_shortestWay_41 (by omega) (fun h10 hm10 => ?_)
          refine a_lload_8 (pc := 42) dX10_shortestWay_42 ?_
          refine a_lload_4 (pc := 44) dX10_shortestWay_44 ?_
          refine a_land (pc := 46) dX10_shortestWay_46 ?_
          refine a_topl (bL (fun i => (fr Op (fun k => decide (k = r)) e) i && (Ga) i)) (bL_and _ _) ?_
          refine a_lconst (pc := 47) (v := 0) dX10_shortestWay_47 (by decide) ?_
          refine a_lcmp (pc := 48) dX10_shortestWay_48 ?_
          refine a_if_eq (pc := 49) (tgt := 67) dX10_shortestWay_49 (by decide) (fun c_49 => ?_) (fun c_49 => ?_)
          · rw [bit_0] at c_49
            have hG2 : ∀ m, m < e + 1 → ∀ k, k < 36 → fr Op (fun k => decide (k = r)) m k = true → Ga k = false := fun m hm9 q hq y => by
              by_cases z : m = e
              · subst z
                have := c_49 q hq
                rw [y, Bool.true_and] at this; exact this
              · exact hG m (by omega) q hq y
            refine a_lload_6 (pc := 67) dX10_shortestWay_67 ?_
            refine a_lload_8 (pc := 69) dX10_shortestWay_69 ?_
            refine a_lor (pc := 71) dX10_shortestWay_71 ?_
            refine a_topl (bL (fun i => (icl Op (fun k => decide (k = r)) e) i || (fr Op (fun k => decide (k = r)) e) i)) (bL_or _ _) ?_
            refine a_topl (bL (icl Op (fun k => decide (k = r)) (e + 1))) (bL_congr (fun q _ => icl_sB _ _ _ _)) ?_
            refine a_lstore_6 (pc := 72) dX10_shortestWay_72 (by decide) (by first | rfl | trivial) ?_
            refine a_lload_8 (pc := 74) dX10_shortestWay_74 ?_
            refine cs_X10_62 (pc := 76) rfl dX10_shortestWay_76 (Nat.le_of_ble_eq_true rfl) ?_
            refine w_spread (by omega) hz ?_
            refine a_lloadn_2 (pc := 79) dX10_shortestWay_79 ?_
            refine a_land (pc := 80) dX10_shortestWay_80 ?_
            refine a_topl (bL (fun i => (nb (fr Op (fun k => decide (k = r)) e)) i && (Op) i)) (bL_and _ _) ?_
            refine a_lload_6 (pc := 81) dX10_shortestWay_81 ?_
            refine a_ldc2 (pc := 83) dX10_shortestWay_83 w_695 ?_
            refine a_lxor (pc := 86) dX10_shortestWay_86 ?_
            refine a_land (pc := 87) dX10_shortestWay_87 ?_
            refine a_topl (bL (fr Op (fun k => decide (k = r)) (e + 1))) ((bL_andn _ _).trans (bL_congr (fun q _ => (fr_sB _ _ _ _).symm))) ?_
            refine a_lstore_8 (pc := 88) dX10_shortestWay_88 (by decide) (by first | rfl | trivial) ?_
            refine a_iinc_10 (pc := 90) (v := nI (e + 1)) dX10_shortestWay_90 (nI_add _ _) (by decide) (by first | rfl | trivial) ?_
            refine a_goto (pc := 93) (tgt := 19) dX10_shortestWay_93 (by decide) ?_
            exact ih (e + 1) _ _ (by omega) (by omega) (fun j hj => by
              by_cases z : j = e
              · subst z; exact vupL_eq
              · rw [vupL_ne z]; exact hR j (by omega)) hG2 (fun m hm9 => by
              by_cases z : m = e
              · subst z; exact e9
              · exact hE m (by omega)) hm10
          · rw [bit_0] at c_49
            have g9 : ∃ k, k < 36 ∧ (fr Op (fun k => decide (k = r)) e k && Ga k) = true := Classical.byContradiction (fun z => c_49 (fun q hq => by
              cases y : (fr Op (fun k => decide (k = r)) e q && Ga q) with
              | false => rfl
              | true => exact absurd ⟨q, hq, y⟩ z))
            refine a_aloadn_0 (pc := 52) dX10_shortestWay_52 ?_
            refine a_iload_10 (pc := 53) dX10_shortestWay_53 ?_
            refine a_lload_8 (pc := 55) dX10_shortestWay_55 ?_
            refine a_lload_4 (pc := 57) dX10_shortestWay_57 ?_
            refine a_land (pc := 59) dX10_shortestWay_59 ?_
            refine a_topl (bL (fun i => (fr Op (fun k => decide (k = r)) e) i && (Ga) i)) (bL_and _ _) ?_
            refine cs_X10_70 (pc := 60) rfl dX10_shortestWay_60 (Nat.le_of_ble_eq_true rfl) ?_
            refine w_lowest (by omega) hz g9 (fun j9 h1_j9 h2_j9 => ?_)
            have j9b := Bool.and_eq_true_iff.mp h2_j9
            refine cv_X10_73 (pc := 63) rfl dX10_shortestWay_63 hm10.ob (Nat.le_of_ble_eq_true rfl) ?_
            refine w_wayBack (by omega) hz hm10 (r := r) (s := e) (by omega) (fun j hj => (vupL_ne (by omega)).trans (hR j hj)) ⟨h1_j9, j9b.1, j9b.2⟩ (fun P W hP hW => ?_)
            exact a_lret (pc := 66) dX10_shortestWay_66 rfl (zf hz) (k1 _ _ e P W hP hG hW hm10)
  refine AM.of [some (.ref (gB G + 55)), some (.int (nI (r))), some (.long (bL (Op))), none, none, none, none, none, none, none, none] pnX10 (Nat.le_of_ble_eq_true rfl) (by simp [lsub, lvI, Value.category]) ?_
  refine a_aloadn_0 (pc := 0) dX10_shortestWay_0 ?_
  refine cv_X10_42 (pc := 1) rfl dX10_shortestWay_1 hm.ob (Nat.le_of_ble_eq_true rfl) ?_
  refine w_gates (by omega) hz hm ?_
  refine a_topl (bL Ga) (by rw [hGa]) ?_
  refine a_lstore_4 (pc := 4) dX10_shortestWay_4 (by decide) (by first | rfl | trivial) ?_
  refine a_lconst (pc := 6) (v := 0) dX10_shortestWay_6 (by decide) ?_
  refine a_topl (bL (icl Op (fun k => decide (k = r)) 0)) bL_0.symm ?_
  refine a_lstore_6 (pc := 7) dX10_shortestWay_7 (by decide) (by first | rfl | trivial) ?_
  refine a_lconst (pc := 9) (v := 1) dX10_shortestWay_9 (by decide) ?_
  refine a_iloadn_1 (pc := 10) dX10_shortestWay_10 ?_
  refine a_lshl (pc := 11) dX10_shortestWay_11 ?_
  refine a_topl (bL (fun i => decide (i = r))) (bL_bit (by omega)) ?_
  refine a_lloadn_2 (pc := 12) dX10_shortestWay_12 ?_
  refine a_land (pc := 13) dX10_shortestWay_13 ?_
  refine a_topl (bL (fun i => (fun i => decide (i = r)) i && (Op) i)) (bL_and _ _) ?_
  refine a_topl (bL (fr Op (fun k => decide (k = r)) 0)) (bL_congr (fun q _ => by show (decide (q = r) && Op q) = ((Op q && decide (q = r)) && !false); cases Op q <;> cases decide (q = r) <;> rfl)) ?_
  refine a_lstore_8 (pc := 14) dX10_shortestWay_14 (by decide) (by first | rfl | trivial) ?_
  refine a_iconst (pc := 16) (v := nI 0) dX10_shortestWay_16 (by decide) ?_
  refine a_istore_10 (pc := 17) dX10_shortestWay_17 (by decide) (by first | rfl | trivial) ?_
  exact lp 38 0 _ _ (by omega) (by omega) (fun j hj => absurd hj (Nat.not_lt_zero j)) (fun m hm => absurd hm (Nat.not_lt_zero m)) (fun m hm => absurd hm (Nat.not_lt_zero m)) hm
