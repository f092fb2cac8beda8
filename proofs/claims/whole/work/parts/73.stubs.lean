/-! THOUGHT: STUBS -/
section TQp
variable {G : Cx} {y : MethodName} {cc : ByteArray} {mL : Nat} {rt : Option FieldType} {R : Room} {Z : List Frame → Array Value → State → State → Prop} {cn sn pc : Nat} {ls : List (Option Value)} {st : List Value} {h h0 : List va_E} {v x : Cv} {F : Lf} {s : Nat × Nat × Int32}
theorem TQ.so {s' : Nat × Nat × Int32} (H : TQ G h0 h v x F s) : TQ G h0 (h.set 25 (tob G s')) v x F s' := by
  obtain ⟨a1, a2, a3, a4, u, hu, hs⟩ := H
  exact ⟨a1.trans (FR.set (by omega)), cityAt_of (fun k hk => hs_ne (by omega) rfl) a2, LawOK_cell (by omega) a3, hs_eq a4, u, cityAt_of (fun k hk => hs_ne (by omega) rfl) hu, hs⟩
theorem tqp_49 {n : Nat} (H : TQ G h0 h v x F s) (ho : y.cls = RX7) (hd : decode cc pc = .ok (.putfield 49, 3)) (kk : ∀ h1, TQ G h0 h1 v x F (n, s.2.1, s.2.2) → AW G y cc mL rt R Z cn sn (pc + 3) ls st h1) : AW G y cc mL rt R Z cn sn pc ls (.int (nI n) :: .ref (gB G + 25) :: st) h :=
  pf_X7_49 ho hd H.th (kk _ (H.so (s' := (n, s.2.1, s.2.2))))
theorem tqp_53 {n : Nat} (H : TQ G h0 h v x F s) (ho : y.cls = RX7) (hd : decode cc pc = .ok (.putfield 53, 3)) (kk : ∀ h1, TQ G h0 h1 v x F (s.1, n, s.2.2) → AW G y cc mL rt R Z cn sn (pc + 3) ls st h1) : AW G y cc mL rt R Z cn sn pc ls (.int (nI n) :: .ref (gB G + 25) :: st) h :=
  pf_X7_53 ho hd H.th (kk _ (H.so (s' := (s.1, n, s.2.2))))
theorem tqp_73 {n : Int32} (H : TQ G h0 h v x F s) (ho : y.cls = RX7) (hd : decode cc pc = .ok (.putfield 73, 3)) (kk : ∀ h1, TQ G h0 h1 v x F (s.1, s.2.1, n) → AW G y cc mL rt R Z cn sn (pc + 3) ls st h1) : AW G y cc mL rt R Z cn sn pc ls (.int n :: .ref (gB G + 25) :: st) h :=
  pf_X7_73 ho hd H.th (kk _ (H.so (s' := (s.1, s.2.1, n))))
end TQp
theorem stS_stop {F : Lf} {t : Nat} {u : Cv} {rm : Int32} {s : St3} (h : s.1 = 0 ∧ s.2.1 = 0) : stS F t u rm s = s := if_neg (by omega)
theorem sf1_stop {F : Lf} {t : Nat} {v : Cv} {s : St3} {a : Nat} (h : (sf1 F t v s a).1 = 0 ∧ (sf1 F t v s a).2.1 = 0) : ∀ n, sf1 F t v s (a + n) = sf1 F t v s a
  | 0 => rfl
  | n + 1 => by
    have ih := sf1_stop h n
    rw [← Nat.add_assoc, sf1, ih]
    split
    · rfl
    · exact stS_stop h
theorem sf2_stop {F : Lf} {t : Nat} {v : Cv} {s : St3} {a x : Nat} (h : (sf2 F t v a s x).1 = 0 ∧ (sf2 F t v a s x).2.1 = 0) : ∀ n, sf2 F t v a s (x + n) = sf2 F t v a s x
  | 0 => rfl
  | n + 1 => by
    have ih := sf2_stop h n
    rw [← Nat.add_assoc, sf2, ih]
    split
    · rfl
    · exact stS_stop h
theorem sf3_stop {F : Lf} {t : Nat} {v : Cv} {s : St3} {a : Nat} (h : (sf3 F t v s a).1 = 0 ∧ (sf3 F t v s a).2.1 = 0) : ∀ n, sf3 F t v s (a + n) = sf3 F t v s a
  | 0 => rfl
  | n + 1 => by
    have ih := sf3_stop h n
    rw [← Nat.add_assoc, sf3, ih]
    have := sf2_stop (F := F) (t := t) (v := v) (a := a + n) (s := sf3 F t v s a) (x := 0) h 36
    rw [Nat.zero_add] at this
    exact this
theorem stop_at {f : Nat → St3} {a : Nat} {s : St3} (hs : ∀ n, f (a + n) = f a) (e : s = f a) (h : a ≤ 36) : s = f 36 := by
  have := hs (36 - a)
  rw [show a + (36 - a) = 36 by omega] at this
  rw [this]; exact e
set_option maxRecDepth 100000 in
set_option maxHeartbeats 4000000 in
theorem q_isDarkNow_n {G : Cx} {d : Nat} {h h0 : List va_E} {v x : Cv} {F : Lf} {s : Nat × Nat × Int32} {Q : Option Value → List va_E → Prop} (hd : 2 ≤ d) (hz : gz G = false) (hm : TQ G h0 h v x F s) (k : Q (some (.int (bI false))) h) : AM G yX7_isDarkNow cX7_isDarkNow 2 (some .boolean) d 0 0 [.ref (gB G + 25), .int ((-1))] h Q := by
  obtain ⟨d, rfl, he⟩ := dpos hd
  refine AM.of [some (.ref (gB G + 25)), some (.int ((-1)))] pnX7 (Nat.le_of_ble_eq_true rfl) (by simp [lsub, lvI, Value.category]) ?_
  refine a_iloadn_1 (pc := 0) dX7_isDarkNow_0 ?_
  refine a_if_lt (pc := 1) (tgt := 19) dX7_isDarkNow_1 (by decide) (fun c_1 => ?_) (fun c_1 => absurd c_1 (by decide))
  refine a_iconst (pc := 19) (v := nI 0) dX7_isDarkNow_19 (by decide) ?_
  exact a_zret (pc := 20) dX7_isDarkNow_20 rfl (by first | rfl | exact bI_nar _ | decide) (zf hz) k
set_option maxRecDepth 100000 in
set_option maxHeartbeats 4000000 in
theorem q_isDarkNow {G : Cx} {d : Nat} {h h0 : List va_E} {v x : Cv} {F : Lf} {s : Nat × Nat × Int32} {Q : Option Value → List va_E → Prop} (hd : 2 ≤ d) (hz : gz G = false) (hm : TQ G h0 h v x F s) {r : Nat} (hr : r < 36) (k : Q (some (.int (bI (cK v r)))) h) : AM G yX7_isDarkNow cX7_isDarkNow 2 (some .boolean) d 0 0 [.ref (gB G + 25), .int (nI (r))] h Q := by
  obtain ⟨d, rfl, he⟩ := dpos hd
  refine AM.of [some (.ref (gB G + 25)), some (.int (nI (r)))] pnX7 (Nat.le_of_ble_eq_true rfl) (by simp [lsub, lvI, Value.category]) ?_
  refine a_iloadn_1 (pc := 0) dX7_isDarkNow_0 ?_
  refine n_if_lt (tgt := 19) dX7_isDarkNow_1 (by decide) (by omega) ?_
  refine a_aloadn_0 (pc := 4) dX7_isDarkNow_4 ?_
  refine gf_X7_18 (pc := 5) rfl dX7_isDarkNow_5 hm.th ?_
  refine a_iloadn_1 (pc := 8) dX7_isDarkNow_8 ?_
  refine cv_X7_37 (pc := 9) rfl dX7_isDarkNow_9 hm.c1 (Nat.le_of_ble_eq_true rfl) ?_
  refine x_isDark (by omega) hz hm.now (by omega) ?_
  refine b_if_eq (pc := 12) (tgt := 19) dX7_isDarkNow_12 (by decide) (fun c_12 => ?_) (fun c_12 => ?_)
  · refine a_iconst (pc := 19) (v := nI 0) dX7_isDarkNow_19 (by decide) ?_
    exact a_zret (pc := 20) dX7_isDarkNow_20 rfl (by first | rfl | exact bI_nar _ | decide) (zf hz) (by have k := k; rw [show cK v r = false from c_12] at k; exact k)
  · refine a_iconst (pc := 15) (v := nI 1) dX7_isDarkNow_15 (by decide) ?_
    refine a_goto (pc := 16) (tgt := 20) dX7_isDarkNow_16 (by decide) ?_
    exact a_zret (pc := 20) dX7_isDarkNow_20 rfl (by first | rfl | exact bI_nar _ | decide) (zf hz) (by have k := k; rw [show cK v r = true from c_12] at k; exact k)
set_option maxRecDepth 100000 in
set_option maxHeartbeats 4000000 in
theorem q_weighStubs0 {G : Cx} {d : Nat} {h h0 : List va_E} {v x : Cv} {F : Lf} {s : Nat × Nat × Int32} {Q : Option Value → List va_E → Prop} (hd : 9 ≤ d) (hz : gz G = false) (hm : TQ G h0 h v x F s) {m : Nat} (hm9 : m < 1000) (hs9 : s.1 ≤ 1000 ∧ s.2.1 ≤ 1000) (k : ∀ h1 x1, TQ G h0 h1 v x1 F (stS F m v (-9) s) → Q none h1) : AM G yX7_weighStubs cX7_weighStubs 6 none d 0 0 [.ref (gB G + 25), .int ((-1)), .int ((-1)), .int (nI (m))] h Q := by
  obtain ⟨d, rfl, he⟩ := dpos hd
  refine AM.of [some (.ref (gB G + 25)), some (.int ((-1))), some (.int ((-1))), some (.int (nI (m))), none, none] pnX7 (Nat.le_of_ble_eq_true rfl) (by simp [lsub, lvI, Value.category]) ?_
  refine a_aloadn_0 (pc := 0) dX7_weighStubs_0 ?_
  refine gf_X7_12 (pc := 1) rfl dX7_weighStubs_1 hm.th ?_
  refine a_aloadn_0 (pc := 4) dX7_weighStubs_4 ?_
  refine gf_X7_18 (pc := 5) rfl dX7_weighStubs_5 hm.th ?_
  refine cv_X7_25 (pc := 8) rfl dX7_weighStubs_8 hm.c26.choose_spec (Nat.le_of_ble_eq_true rfl) ?_
  refine q_copy (by omega) hz hm (fun h1 hm1 => ?_)
  refine a_iloadn_1 (pc := 11) dX7_weighStubs_11 ?_
  refine a_if_lt (pc := 12) (tgt := 25) dX7_weighStubs_12 (by decide) (fun c_12 => ?_) (fun c_12 => absurd c_12 (by decide))
  refine a_iloadn_2 (pc := 25) dX7_weighStubs_25 ?_
  refine a_if_lt (pc := 26) (tgt := 39) dX7_weighStubs_26 (by decide) (fun c_26 => ?_) (fun c_26 => absurd c_26 (by decide))
  refine a_iconst (pc := 39) (v := nI 0) dX7_weighStubs_39 (by decide) ?_
  refine a_istore_4 (pc := 40) dX7_weighStubs_40 (by decide) (by first | rfl | trivial) ?_
  have lp : ∀ (n : Nat) (i : Nat) (h1 : List va_E), m - i < n → (i ≤ m) → (TQ G h0 h1 v (hrs F i v) F s) → AW G yX7_weighStubs cX7_weighStubs 6 none (rmx (d + 1) 0 0) (ZQ G 0 0 (h.length + 0) Q) 0 0 42 [some (.ref (gB G + 25)), some (.int ((-1))), some (.int ((-1))), some (.int (nI (m))), some (.int (nI (i))), none] [] h1 := by
    intro n
    induction n with
    | zero => intro i h1 hn; exact absurd hn (Nat.not_lt_zero _)
    | succ n ih =>
      intro i h1 hn hi hm1
      refine a_iload_4 (pc := 42) dX7_weighStubs_42 ?_
      refine a_iloadn_3 (pc := 44) dX7_weighStubs_44 ?_
      refine n_icmp_ge (tgt := 65) dX7_weighStubs_45 (by decide) (by omega) (by omega) (fun c_45 => ?_) (fun c_45 => ?_)
      · have im : m = i := by omega
        have cl1 := chN_le F m v
        have cl2 := dkN_le F m v
        refine a_aloadn_0 (pc := 65) dX7_weighStubs_65 ?_
        refine gf_X7_12 (pc := 66) rfl dX7_weighStubs_66 hm1.th ?_
        refine cv_X7_66 (pc := 69) rfl dX7_weighStubs_69 hm1.c26.choose_spec (Nat.le_of_ble_eq_true rfl) ?_
        refine q_darkChildren (by omega) hz hm1 ?_
        refine a_topi (nI (chN F m v)) (by rw [im]; rfl) ?_
        refine a_istore_4 (pc := 72) dX7_weighStubs_72 (by decide) (by first | rfl | trivial) ?_
        refine a_aloadn_0 (pc := 74) dX7_weighStubs_74 ?_
        refine gf_X7_12 (pc := 75) rfl dX7_weighStubs_75 hm1.th ?_
        refine cv_X7_70 (pc := 78) rfl dX7_weighStubs_78 hm1.c26.choose_spec (Nat.le_of_ble_eq_true rfl) ?_
        refine q_darkCount (by omega) hz hm1 ?_
        refine a_topi (nI (dkN F m v)) (by rw [im]; rfl) ?_
        refine a_istore_5 (pc := 81) dX7_weighStubs_81 (by decide) (by first | rfl | trivial) ?_
        refine a_iload_4 (pc := 83) dX7_weighStubs_83 ?_
        refine a_aloadn_0 (pc := 85) dX7_weighStubs_85 ?_
        refine gf_X7_49 (pc := 86) rfl dX7_weighStubs_86 hm1.th ?_
        refine a_topi (nI (s.1)) rfl ?_
        refine n_icmp_lt (tgt := 110) dX7_weighStubs_89 (by decide) (by omega) (by omega) (fun c_89 => ?_) (fun c_89 => ?_)
        · have hM : stS F m v (-9) s = (chN F m v, dkN F m v, (-9)) := if_pos (Or.inl c_89)
          refine a_aloadn_0 (pc := 110) dX7_weighStubs_110 ?_
          refine a_iload_4 (pc := 111) dX7_weighStubs_111 ?_
          refine tqp_49 (n := chN F m v) hm1 rfl dX7_weighStubs_113 (fun h4 hm4 => ?_)
          have hm4 : TQ G h0 h4 v (hrs F i v) F (chN F m v, s.2.1, s.2.2) := hm4
          refine a_aloadn_0 (pc := 116) dX7_weighStubs_116 ?_
          refine a_iload_5 (pc := 117) dX7_weighStubs_117 ?_
          refine tqp_53 (n := dkN F m v) hm4 rfl dX7_weighStubs_119 (fun h5 hm5 => ?_)
          have hm5 : TQ G h0 h5 v (hrs F i v) F (chN F m v, dkN F m v, s.2.2) := hm5
          refine a_aloadn_0 (pc := 122) dX7_weighStubs_122 ?_
          refine a_iloadn_2 (pc := 123) dX7_weighStubs_123 ?_
          refine a_if_lt (pc := 124) (tgt := 136) dX7_weighStubs_124 (by decide) (fun c_124 => ?_) (fun c_124 => absurd c_124 (by decide))
          refine a_iloadn_1 (pc := 136) dX7_weighStubs_136 ?_
          refine a_if_lt (pc := 137) (tgt := 144) dX7_weighStubs_137 (by decide) (fun c_137 => ?_) (fun c_137 => absurd c_137 (by decide))
          refine a_bipush (pc := 144) (v := (-9)) dX7_weighStubs_144 (by decide) ?_
          refine tqp_73 (n := ((-9))) hm5 rfl dX7_weighStubs_146 (fun h6 hm6 => ?_)
          have hm6 : TQ G h0 h6 v (hrs F i v) F (chN F m v, dkN F m v, ((-9))) := hm6
          exact a_vret (pc := 149) dX7_weighStubs_149 rfl (zf hz) (k _ _ (by rw [hM]; exact hm6))
        · refine a_iload_4 (pc := 92) dX7_weighStubs_92 ?_
          refine a_aloadn_0 (pc := 94) dX7_weighStubs_94 ?_
          refine gf_X7_49 (pc := 95) rfl dX7_weighStubs_95 hm1.th ?_
          refine a_topi (nI (s.1)) rfl ?_
          refine n_icmp_ne (tgt := 149) dX7_weighStubs_98 (by decide) (by omega) (by omega) (fun c_98 => ?_) (fun c_98 => ?_)
          · have hM : stS F m v (-9) s = s := if_neg (by omega)
            exact a_vret (pc := 149) dX7_weighStubs_149 rfl (zf hz) (k _ _ (by rw [hM]; exact hm1))
          · refine a_iload_5 (pc := 101) dX7_weighStubs_101 ?_
            refine a_aloadn_0 (pc := 103) dX7_weighStubs_103 ?_
            refine gf_X7_53 (pc := 104) rfl dX7_weighStubs_104 hm1.th ?_
            refine a_topi (nI (s.2.1)) rfl ?_
            refine n_icmp_ge (tgt := 149) dX7_weighStubs_107 (by decide) (by omega) (by omega) (fun c_107 => ?_) (fun c_107 => ?_)
            · have hM : stS F m v (-9) s = s := if_neg (by omega)
              exact a_vret (pc := 149) dX7_weighStubs_149 rfl (zf hz) (k _ _ (by rw [hM]; exact hm1))
            · have hM : stS F m v (-9) s = (chN F m v, dkN F m v, (-9)) := if_pos (Or.inr ⟨c_98, by omega⟩)
              refine a_aloadn_0 (pc := 110) dX7_weighStubs_110 ?_
              refine a_iload_4 (pc := 111) dX7_weighStubs_111 ?_
              refine tqp_49 (n := chN F m v) hm1 rfl dX7_weighStubs_113 (fun h4 hm4 => ?_)
              have hm4 : TQ G h0 h4 v (hrs F i v) F (chN F m v, s.2.1, s.2.2) := hm4
              refine a_aloadn_0 (pc := 116) dX7_weighStubs_116 ?_
              refine a_iload_5 (pc := 117) dX7_weighStubs_117 ?_
              refine tqp_53 (n := dkN F m v) hm4 rfl dX7_weighStubs_119 (fun h5 hm5 => ?_)
              have hm5 : TQ G h0 h5 v (hrs F i v) F (chN F m v, dkN F m v, s.2.2) := hm5
              refine a_aloadn_0 (pc := 122) dX7_weighStubs_122 ?_
              refine a_iloadn_2 (pc := 123) dX7_weighStubs_123 ?_
              refine a_if_lt (pc := 124) (tgt := 136) dX7_weighStubs_124 (by decide) (fun c_124 => ?_) (fun c_124 => absurd c_124 (by decide))
              refine a_iloadn_1 (pc := 136) dX7_weighStubs_136 ?_
              refine a_if_lt (pc := 137) (tgt := 144) dX7_weighStubs_137 (by decide) (fun c_137 => ?_) (fun c_137 => absurd c_137 (by decide))
              refine a_bipush (pc := 144) (v := (-9)) dX7_weighStubs_144 (by decide) ?_
              refine tqp_73 (n := ((-9))) hm5 rfl dX7_weighStubs_146 (fun h6 hm6 => ?_)
              have hm6 : TQ G h0 h6 v (hrs F i v) F (chN F m v, dkN F m v, ((-9))) := hm6
              exact a_vret (pc := 149) dX7_weighStubs_149 rfl (zf hz) (k _ _ (by rw [hM]; exact hm6))
      · refine a_aloadn_0 (pc := 48) dX7_weighStubs_48 ?_
        refine gf_X7_12 (pc := 49) rfl dX7_weighStubs_49 hm1.th ?_
        refine a_aloadn_0 (pc := 52) dX7_weighStubs_52 ?_
        refine gf_X7_21 (pc := 53) rfl dX7_weighStubs_53 hm1.th ?_
        refine cv_X7_29 (pc := 56) rfl dX7_weighStubs_56 hm1.c26.choose_spec (Nat.le_of_ble_eq_true rfl) ?_
        refine q_hour (by omega) hz hm1 (fun h4 hm4 => ?_)
        refine a_iinc_4 (pc := 59) (v := nI (i + 1)) dX7_weighStubs_59 (nI_add _ _) (by decide) (by first | rfl | trivial) ?_
        refine a_goto (pc := 62) (tgt := 42) dX7_weighStubs_62 (by decide) ?_
        exact ih (i + 1) _ (by omega) (by omega) hm4
  exact lp (m + 1) 0 _ (by omega) (by omega) hm1
set_option maxRecDepth 100000 in
set_option maxHeartbeats 4000000 in
theorem q_weighStubs1 {G : Cx} {d : Nat} {h h0 : List va_E} {v x : Cv} {F : Lf} {s : Nat × Nat × Int32} {Q : Option Value → List va_E → Prop} (hd : 9 ≤ d) (hz : gz G = false) (hm : TQ G h0 h v x F s) {m : Nat} (hm9 : m < 1000) (hs9 : s.1 ≤ 1000 ∧ s.2.1 ≤ 1000) {x9 : Nat} (hx9 : x9 < 36) (k : ∀ h1 x1, TQ G h0 h1 v x1 F (stS F m (add12 v x9) (nI x9) s) → Q none h1) : AM G yX7_weighStubs cX7_weighStubs 6 none d 0 0 [.ref (gB G + 25), .int (nI (x9)), .int ((-1)), .int (nI (m))] h Q := by
  obtain ⟨d, rfl, he⟩ := dpos hd
  refine AM.of [some (.ref (gB G + 25)), some (.int (nI (x9))), some (.int ((-1))), some (.int (nI (m))), none, none] pnX7 (Nat.le_of_ble_eq_true rfl) (by simp [lsub, lvI, Value.category]) ?_
  refine a_aloadn_0 (pc := 0) dX7_weighStubs_0 ?_
  refine gf_X7_12 (pc := 1) rfl dX7_weighStubs_1 hm.th ?_
  refine a_aloadn_0 (pc := 4) dX7_weighStubs_4 ?_
  refine gf_X7_18 (pc := 5) rfl dX7_weighStubs_5 hm.th ?_
  refine cv_X7_25 (pc := 8) rfl dX7_weighStubs_8 hm.c26.choose_spec (Nat.le_of_ble_eq_true rfl) ?_
  refine q_copy (by omega) hz hm (fun h1 hm1 => ?_)
  refine a_iloadn_1 (pc := 11) dX7_weighStubs_11 ?_
  refine n_if_lt (tgt := 25) dX7_weighStubs_12 (by decide) (by omega) ?_
  refine a_aloadn_0 (pc := 15) dX7_weighStubs_15 ?_
  refine gf_X7_12 (pc := 16) rfl dX7_weighStubs_16 hm1.th ?_
  refine a_iloadn_1 (pc := 19) dX7_weighStubs_19 ?_
  refine a_bipush (pc := 20) (v := nI 12) dX7_weighStubs_20 (by decide) ?_
  refine cv_X7_63 (pc := 22) rfl dX7_weighStubs_22 hm1.c26.choose_spec (Nat.le_of_ble_eq_true rfl) ?_
  refine q_addWax (by omega) hz hm1 (by omega) (by omega) (fun h2 hm2 => ?_)
  refine a_iloadn_2 (pc := 25) dX7_weighStubs_25 ?_
  refine a_if_lt (pc := 26) (tgt := 39) dX7_weighStubs_26 (by decide) (fun c_26 => ?_) (fun c_26 => absurd c_26 (by decide))
  refine a_iconst (pc := 39) (v := nI 0) dX7_weighStubs_39 (by decide) ?_
  refine a_istore_4 (pc := 40) dX7_weighStubs_40 (by decide) (by first | rfl | trivial) ?_
  have lp : ∀ (n : Nat) (i : Nat) (h1 : List va_E), m - i < n → (i ≤ m) → (TQ G h0 h1 v (hrs F i (add12 v x9)) F s) → AW G yX7_weighStubs cX7_weighStubs 6 none (rmx (d + 1) 0 0) (ZQ G 0 0 (h.length + 0) Q) 0 0 42 [some (.ref (gB G + 25)), some (.int (nI (x9))), some (.int ((-1))), some (.int (nI (m))), some (.int (nI (i))), none] [] h1 := by
    intro n
    induction n with
    | zero => intro i h1 hn; exact absurd hn (Nat.not_lt_zero _)
    | succ n ih =>
      intro i h1 hn hi hm1
      refine a_iload_4 (pc := 42) dX7_weighStubs_42 ?_
      refine a_iloadn_3 (pc := 44) dX7_weighStubs_44 ?_
      refine n_icmp_ge (tgt := 65) dX7_weighStubs_45 (by decide) (by omega) (by omega) (fun c_45 => ?_) (fun c_45 => ?_)
      · have im : m = i := by omega
        have cl1 := chN_le F m (add12 v x9)
        have cl2 := dkN_le F m (add12 v x9)
        refine a_aloadn_0 (pc := 65) dX7_weighStubs_65 ?_
        refine gf_X7_12 (pc := 66) rfl dX7_weighStubs_66 hm1.th ?_
        refine cv_X7_66 (pc := 69) rfl dX7_weighStubs_69 hm1.c26.choose_spec (Nat.le_of_ble_eq_true rfl) ?_
        refine q_darkChildren (by omega) hz hm1 ?_
        refine a_topi (nI (chN F m (add12 v x9))) (by rw [im]; rfl) ?_
        refine a_istore_4 (pc := 72) dX7_weighStubs_72 (by decide) (by first | rfl | trivial) ?_
        refine a_aloadn_0 (pc := 74) dX7_weighStubs_74 ?_
        refine gf_X7_12 (pc := 75) rfl dX7_weighStubs_75 hm1.th ?_
        refine cv_X7_70 (pc := 78) rfl dX7_weighStubs_78 hm1.c26.choose_spec (Nat.le_of_ble_eq_true rfl) ?_
        refine q_darkCount (by omega) hz hm1 ?_
        refine a_topi (nI (dkN F m (add12 v x9))) (by rw [im]; rfl) ?_
        refine a_istore_5 (pc := 81) dX7_weighStubs_81 (by decide) (by first | rfl | trivial) ?_
        refine a_iload_4 (pc := 83) dX7_weighStubs_83 ?_
        refine a_aloadn_0 (pc := 85) dX7_weighStubs_85 ?_
        refine gf_X7_49 (pc := 86) rfl dX7_weighStubs_86 hm1.th ?_
        refine a_topi (nI (s.1)) rfl ?_
        refine n_icmp_lt (tgt := 110) dX7_weighStubs_89 (by decide) (by omega) (by omega) (fun c_89 => ?_) (fun c_89 => ?_)
        · have hM : stS F m (add12 v x9) (nI x9) s = (chN F m (add12 v x9), dkN F m (add12 v x9), (nI x9)) := if_pos (Or.inl c_89)
          refine a_aloadn_0 (pc := 110) dX7_weighStubs_110 ?_
          refine a_iload_4 (pc := 111) dX7_weighStubs_111 ?_
          refine tqp_49 (n := chN F m (add12 v x9)) hm1 rfl dX7_weighStubs_113 (fun h4 hm4 => ?_)
          have hm4 : TQ G h0 h4 v (hrs F i (add12 v x9)) F (chN F m (add12 v x9), s.2.1, s.2.2) := hm4
          refine a_aloadn_0 (pc := 116) dX7_weighStubs_116 ?_
          refine a_iload_5 (pc := 117) dX7_weighStubs_117 ?_
          refine tqp_53 (n := dkN F m (add12 v x9)) hm4 rfl dX7_weighStubs_119 (fun h5 hm5 => ?_)
          have hm5 : TQ G h0 h5 v (hrs F i (add12 v x9)) F (chN F m (add12 v x9), dkN F m (add12 v x9), s.2.2) := hm5
          refine a_aloadn_0 (pc := 122) dX7_weighStubs_122 ?_
          refine a_iloadn_2 (pc := 123) dX7_weighStubs_123 ?_
          refine a_if_lt (pc := 124) (tgt := 136) dX7_weighStubs_124 (by decide) (fun c_124 => ?_) (fun c_124 => absurd c_124 (by decide))
          refine a_iloadn_1 (pc := 136) dX7_weighStubs_136 ?_
          refine n_if_lt (tgt := 144) dX7_weighStubs_137 (by decide) (by omega) ?_
          refine a_iloadn_1 (pc := 140) dX7_weighStubs_140 ?_
          refine a_goto (pc := 141) (tgt := 146) dX7_weighStubs_141 (by decide) ?_
          refine tqp_73 (n := nI (x9)) hm5 rfl dX7_weighStubs_146 (fun h6 hm6 => ?_)
          have hm6 : TQ G h0 h6 v (hrs F i (add12 v x9)) F (chN F m (add12 v x9), dkN F m (add12 v x9), nI (x9)) := hm6
          exact a_vret (pc := 149) dX7_weighStubs_149 rfl (zf hz) (k _ _ (by rw [hM]; exact hm6))
        · refine a_iload_4 (pc := 92) dX7_weighStubs_92 ?_
          refine a_aloadn_0 (pc := 94) dX7_weighStubs_94 ?_
          refine gf_X7_49 (pc := 95) rfl dX7_weighStubs_95 hm1.th ?_
          refine a_topi (nI (s.1)) rfl ?_
          refine n_icmp_ne (tgt := 149) dX7_weighStubs_98 (by decide) (by omega) (by omega) (fun c_98 => ?_) (fun c_98 => ?_)
          · have hM : stS F m (add12 v x9) (nI x9) s = s := if_neg (by omega)
            exact a_vret (pc := 149) dX7_weighStubs_149 rfl (zf hz) (k _ _ (by rw [hM]; exact hm1))
          · refine a_iload_5 (pc := 101) dX7_weighStubs_101 ?_
            refine a_aloadn_0 (pc := 103) dX7_weighStubs_103 ?_
            refine gf_X7_53 (pc := 104) rfl dX7_weighStubs_104 hm1.th ?_
            refine a_topi (nI (s.2.1)) rfl ?_
            refine n_icmp_ge (tgt := 149) dX7_weighStubs_107 (by decide) (by omega) (by omega) (fun c_107 => ?_) (fun c_107 => ?_)
            · have hM : stS F m (add12 v x9) (nI x9) s = s := if_neg (by omega)
              exact a_vret (pc := 149) dX7_weighStubs_149 rfl (zf hz) (k _ _ (by rw [hM]; exact hm1))
            · have hM : stS F m (add12 v x9) (nI x9) s = (chN F m (add12 v x9), dkN F m (add12 v x9), (nI x9)) := if_pos (Or.inr ⟨c_98, by omega⟩)
              refine a_aloadn_0 (pc := 110) dX7_weighStubs_110 ?_
              refine a_iload_4 (pc := 111) dX7_weighStubs_111 ?_
              refine tqp_49 (n := chN F m (add12 v x9)) hm1 rfl dX7_weighStubs_113 (fun h4 hm4 => ?_)
              have hm4 : TQ G h0 h4 v (hrs F i (add12 v x9)) F (chN F m (add12 v x9), s.2.1, s.2.2) := hm4
              refine a_aloadn_0 (pc := 116) dX7_weighStubs_116 ?_
              refine a_iload_5 (pc := 117) dX7_weighStubs_117 ?_
              refine tqp_53 (n := dkN F m (add12 v x9)) hm4 rfl dX7_weighStubs_119 (fun h5 hm5 => ?_)
              have hm5 : TQ G h0 h5 v (hrs F i (add12 v x9)) F (chN F m (add12 v x9), dkN F m (add12 v x9), s.2.2) := hm5
              refine a_aloadn_0 (pc := 122) dX7_weighStubs_122 ?_
              refine a_iloadn_2 (pc := 123) dX7_weighStubs_123 ?_
              refine a_if_lt (pc := 124) (tgt := 136) dX7_weighStubs_124 (by decide) (fun c_124 => ?_) (fun c_124 => absurd c_124 (by decide))
              refine a_iloadn_1 (pc := 136) dX7_weighStubs_136 ?_
              refine n_if_lt (tgt := 144) dX7_weighStubs_137 (by decide) (by omega) ?_
              refine a_iloadn_1 (pc := 140) dX7_weighStubs_140 ?_
              refine a_goto (pc := 141) (tgt := 146) dX7_weighStubs_141 (by decide) ?_
              refine tqp_73 (n := nI (x9)) hm5 rfl dX7_weighStubs_146 (fun h6 hm6 => ?_)
              have hm6 : TQ G h0 h6 v (hrs F i (add12 v x9)) F (chN F m (add12 v x9), dkN F m (add12 v x9), nI (x9)) := hm6
              exact a_vret (pc := 149) dX7_weighStubs_149 rfl (zf hz) (k _ _ (by rw [hM]; exact hm6))
      · refine a_aloadn_0 (pc := 48) dX7_weighStubs_48 ?_
        refine gf_X7_12 (pc := 49) rfl dX7_weighStubs_49 hm1.th ?_
        refine a_aloadn_0 (pc := 52) dX7_weighStubs_52 ?_
        refine gf_X7_21 (pc := 53) rfl dX7_weighStubs_53 hm1.th ?_
        refine cv_X7_29 (pc := 56) rfl dX7_weighStubs_56 hm1.c26.choose_spec (Nat.le_of_ble_eq_true rfl) ?_
        refine q_hour (by omega) hz hm1 (fun h4 hm4 => ?_)
        refine a_iinc_4 (pc := 59) (v := nI (i + 1)) dX7_weighStubs_59 (nI_add _ _) (by decide) (by first | rfl | trivial) ?_
        refine a_goto (pc := 62) (tgt := 42) dX7_weighStubs_62 (by decide) ?_
        exact ih (i + 1) _ (by omega) (by omega) hm4
  exact lp (m + 1) 0 _ (by omega) (by omega) hm2
set_option maxRecDepth 100000 in
set_option maxHeartbeats 4000000 in
theorem q_weighStubs2 {G : Cx} {d : Nat} {h h0 : List va_E} {v x : Cv} {F : Lf} {s : Nat × Nat × Int32} {Q : Option Value → List va_E → Prop} (hd : 9 ≤ d) (hz : gz G = false) (hm : TQ G h0 h v x F s) {m : Nat} (hm9 : m < 1000) (hs9 : s.1 ≤ 1000 ∧ s.2.1 ≤ 1000) {x9 : Nat} (hx9 : x9 < 36) {a : Nat} (ha : a < 36) (k : ∀ h1 x1, TQ G h0 h1 v x1 F (stS F m (add12 (add12 v a) x9) (nI (36 * a + x9)) s) → Q none h1) : AM G yX7_weighStubs cX7_weighStubs 6 none d 0 0 [.ref (gB G + 25), .int (nI (a)), .int (nI (x9)), .int (nI (m))] h Q := by
  obtain ⟨d, rfl, he⟩ := dpos hd
  refine AM.of [some (.ref (gB G + 25)), some (.int (nI (a))), some (.int (nI (x9))), some (.int (nI (m))), none, none] pnX7 (Nat.le_of_ble_eq_true rfl) (by simp [lsub, lvI, Value.category]) ?_
  refine a_aloadn_0 (pc := 0) dX7_weighStubs_0 ?_
  refine gf_X7_12 (pc := 1) rfl dX7_weighStubs_1 hm.th ?_
  refine a_aloadn_0 (pc := 4) dX7_weighStubs_4 ?_
  refine gf_X7_18 (pc := 5) rfl dX7_weighStubs_5 hm.th ?_
  refine cv_X7_25 (pc := 8) rfl dX7_weighStubs_8 hm.c26.choose_spec (Nat.le_of_ble_eq_true rfl) ?_
  refine q_copy (by omega) hz hm (fun h1 hm1 => ?_)
  refine a_iloadn_1 (pc := 11) dX7_weighStubs_11 ?_
  refine n_if_lt (tgt := 25) dX7_weighStubs_12 (by decide) (by omega) ?_
  refine a_aloadn_0 (pc := 15) dX7_weighStubs_15 ?_
  refine gf_X7_12 (pc := 16) rfl dX7_weighStubs_16 hm1.th ?_
  refine a_iloadn_1 (pc := 19) dX7_weighStubs_19 ?_
  refine a_bipush (pc := 20) (v := nI 12) dX7_weighStubs_20 (by decide) ?_
  refine cv_X7_63 (pc := 22) rfl dX7_weighStubs_22 hm1.c26.choose_spec (Nat.le_of_ble_eq_true rfl) ?_
  refine q_addWax (by omega) hz hm1 (by omega) (by omega) (fun h2 hm2 => ?_)
  refine a_iloadn_2 (pc := 25) dX7_weighStubs_25 ?_
  refine n_if_lt (tgt := 39) dX7_weighStubs_26 (by decide) (by omega) ?_
  refine a_aloadn_0 (pc := 29) dX7_weighStubs_29 ?_
  refine gf_X7_12 (pc := 30) rfl dX7_weighStubs_30 hm2.th ?_
  refine a_iloadn_2 (pc := 33) dX7_weighStubs_33 ?_
  refine a_bipush (pc := 34) (v := nI 12) dX7_weighStubs_34 (by decide) ?_
  refine cv_X7_63 (pc := 36) rfl dX7_weighStubs_36 hm2.c26.choose_spec (Nat.le_of_ble_eq_true rfl) ?_
  refine q_addWax (by omega) hz hm2 (by omega) (by omega) (fun h3 hm3 => ?_)
  refine a_iconst (pc := 39) (v := nI 0) dX7_weighStubs_39 (by decide) ?_
  refine a_istore_4 (pc := 40) dX7_weighStubs_40 (by decide) (by first | rfl | trivial) ?_
  have lp : ∀ (n : Nat) (i : Nat) (h1 : List va_E), m - i < n → (i ≤ m) → (TQ G h0 h1 v (hrs F i (add12 (add12 v a) x9)) F s) → AW G yX7_weighStubs cX7_weighStubs 6 none (rmx (d + 1) 0 0) (ZQ G 0 0 (h.length + 0) Q) 0 0 42 [some (.ref (gB G + 25)), some (.int (nI (a))), some (.int (nI (x9))), some (.int (nI (m))), some (.int (nI (i))), none] [] h1 := by
    intro n
    induction n with
    | zero => intro i h1 hn; exact absurd hn (Nat.not_lt_zero _)
    | succ n ih =>
      intro i h1 hn hi hm1
      refine a_iload_4 (pc := 42) dX7_weighStubs_42 ?_
      refine a_iloadn_3 (pc := 44) dX7_weighStubs_44 ?_
      refine n_icmp_ge (tgt := 65) dX7_weighStubs_45 (by decide) (by omega) (by omega) (fun c_45 => ?_) (fun c_45 => ?_)
      · have im : m = i := by omega
        have cl1 := chN_le F m (add12 (add12 v a) x9)
        have cl2 := dkN_le F m (add12 (add12 v a) x9)
        refine a_aloadn_0 (pc := 65) dX7_weighStubs_65 ?_
        refine gf_X7_12 (pc := 66) rfl dX7_weighStubs_66 hm1.th ?_
        refine cv_X7_66 (pc := 69) rfl dX7_weighStubs_69 hm1.c26.choose_spec (Nat.le_of_ble_eq_true rfl) ?_
        refine q_darkChildren (by omega) hz hm1 ?_
        refine a_topi (nI (chN F m (add12 (add12 v a) x9))) (by rw [im]; rfl) ?_
        refine a_istore_4 (pc := 72) dX7_weighStubs_72 (by decide) (by first | rfl | trivial) ?_
        refine a_aloadn_0 (pc := 74) dX7_weighStubs_74 ?_
        refine gf_X7_12 (pc := 75) rfl dX7_weighStubs_75 hm1.th ?_
        refine cv_X7_70 (pc := 78) rfl dX7_weighStubs_78 hm1.c26.choose_spec (Nat.le_of_ble_eq_true rfl) ?_
        refine q_darkCount (by omega) hz hm1 ?_
        refine a_topi (nI (dkN F m (add12 (add12 v a) x9))) (by rw [im]; rfl) ?_
        refine a_istore_5 (pc := 81) dX7_weighStubs_81 (by decide) (by first | rfl | trivial) ?_
        refine a_iload_4 (pc := 83) dX7_weighStubs_83 ?_
        refine a_aloadn_0 (pc := 85) dX7_weighStubs_85 ?_
        refine gf_X7_49 (pc := 86) rfl dX7_weighStubs_86 hm1.th ?_
        refine a_topi (nI (s.1)) rfl ?_
        refine n_icmp_lt (tgt := 110) dX7_weighStubs_89 (by decide) (by omega) (by omega) (fun c_89 => ?_) (fun c_89 => ?_)
        · have hM : stS F m (add12 (add12 v a) x9) (nI (36 * a + x9)) s = (chN F m (add12 (add12 v a) x9), dkN F m (add12 (add12 v a) x9), (nI (36 * a + x9))) := if_pos (Or.inl c_89)
          refine a_aloadn_0 (pc := 110) dX7_weighStubs_110 ?_
          refine a_iload_4 (pc := 111) dX7_weighStubs_111 ?_
          refine tqp_49 (n := chN F m (add12 (add12 v a) x9)) hm1 rfl dX7_weighStubs_113 (fun h4 hm4 => ?_)
          have hm4 : TQ G h0 h4 v (hrs F i (add12 (add12 v a) x9)) F (chN F m (add12 (add12 v a) x9), s.2.1, s.2.2) := hm4
          refine a_aloadn_0 (pc := 116) dX7_weighStubs_116 ?_
          refine a_iload_5 (pc := 117) dX7_weighStubs_117 ?_
          refine tqp_53 (n := dkN F m (add12 (add12 v a) x9)) hm4 rfl dX7_weighStubs_119 (fun h5 hm5 => ?_)
          have hm5 : TQ G h0 h5 v (hrs F i (add12 (add12 v a) x9)) F (chN F m (add12 (add12 v a) x9), dkN F m (add12 (add12 v a) x9), s.2.2) := hm5
          refine a_aloadn_0 (pc := 122) dX7_weighStubs_122 ?_
          refine a_iloadn_2 (pc := 123) dX7_weighStubs_123 ?_
          refine n_if_lt (tgt := 136) dX7_weighStubs_124 (by decide) (by omega) ?_
          refine a_bipush (pc := 127) (v := nI 36) dX7_weighStubs_127 (by decide) ?_
          refine a_iloadn_1 (pc := 129) dX7_weighStubs_129 ?_
          refine n_imul dX7_weighStubs_130 ?_
          refine a_iloadn_2 (pc := 131) dX7_weighStubs_131 ?_
          refine n_iadd dX7_weighStubs_132 ?_
          refine a_goto (pc := 133) (tgt := 146) dX7_weighStubs_133 (by decide) ?_
          refine tqp_73 (n := nI (36 * a + x9)) hm5 rfl dX7_weighStubs_146 (fun h6 hm6 => ?_)
          have hm6 : TQ G h0 h6 v (hrs F i (add12 (add12 v a) x9)) F (chN F m (add12 (add12 v a) x9), dkN F m (add12 (add12 v a) x9), nI (36 * a + x9)) := hm6
          exact a_vret (pc := 149) dX7_weighStubs_149 rfl (zf hz) (k _ _ (by rw [hM]; exact hm6))
        · refine a_iload_4 (pc := 92) dX7_weighStubs_92 ?_
          refine a_aloadn_0 (pc := 94) dX7_weighStubs_94 ?_
          refine gf_X7_49 (pc := 95) rfl dX7_weighStubs_95 hm1.th ?_
          refine a_topi (nI (s.1)) rfl ?_
          refine n_icmp_ne (tgt := 149) dX7_weighStubs_98 (by decide) (by omega) (by omega) (fun c_98 => ?_) (fun c_98 => ?_)
          · have hM : stS F m (add12 (add12 v a) x9) (nI (36 * a + x9)) s = s := if_neg (by omega)
            exact a_vret (pc := 149) dX7_weighStubs_149 rfl (zf hz) (k _ _ (by rw [hM]; exact hm1))
          · refine a_iload_5 (pc := 101) dX7_weighStubs_101 ?_
            refine a_aloadn_0 (pc := 103) dX7_weighStubs_103 ?_
            refine gf_X7_53 (pc := 104) rfl dX7_weighStubs_104 hm1.th ?_
            refine a_topi (nI (s.2.1)) rfl ?_
            refine n_icmp_ge (tgt := 149) dX7_weighStubs_107 (by decide) (by omega) (by omega) (fun c_107 => ?_) (fun c_107 => ?_)
            · have hM : stS F m (add12 (add12 v a) x9) (nI (36 * a + x9)) s = s := if_neg (by omega)
              exact a_vret (pc := 149) dX7_weighStubs_149 rfl (zf hz) (k _ _ (by rw [hM]; exact hm1))
            · have hM : stS F m (add12 (add12 v a) x9) (nI (36 * a + x9)) s = (chN F m (add12 (add12 v a) x9), dkN F m (add12 (add12 v a) x9), (nI (36 * a + x9))) := if_pos (Or.inr ⟨c_98, by omega⟩)
              refine a_aloadn_0 (pc := 110) dX7_weighStubs_110 ?_
              refine a_iload_4 (pc := 111) dX7_weighStubs_111 ?_
              refine tqp_49 (n := chN F m (add12 (add12 v a) x9)) hm1 rfl dX7_weighStubs_113 (fun h4 hm4 => ?_)
              have hm4 : TQ G h0 h4 v (hrs F i (add12 (add12 v a) x9)) F (chN F m (add12 (add12 v a) x9), s.2.1, s.2.2) := hm4
              refine a_aloadn_0 (pc := 116) dX7_weighStubs_116 ?_
              refine a_iload_5 (pc := 117) dX7_weighStubs_117 ?_
              refine tqp_53 (n := dkN F m (add12 (add12 v a) x9)) hm4 rfl dX7_weighStubs_119 (fun h5 hm5 => ?_)
              have hm5 : TQ G h0 h5 v (hrs F i (add12 (add12 v a) x9)) F (chN F m (add12 (add12 v a) x9), dkN F m (add12 (add12 v a) x9), s.2.2) := hm5
              refine a_aloadn_0 (pc := 122) dX7_weighStubs_122 ?_
              refine a_iloadn_2 (pc := 123) dX7_weighStubs_123 ?_
              refine n_if_lt (tgt := 136) dX7_weighStubs_124 (by decide) (by omega) ?_
              refine a_bipush (pc := 127) (v := nI 36) dX7_weighStubs_127 (by decide) ?_
              refine a_iloadn_1 (pc := 129) dX7_weighStubs_129 ?_
              refine n_imul dX7_weighStubs_130 ?_
              refine a_iloadn_2 (pc := 131) dX7_weighStubs_131 ?_
              refine n_iadd dX7_weighStubs_132 ?_
              refine a_goto (pc := 133) (tgt := 146) dX7_weighStubs_133 (by decide) ?_
              refine tqp_73 (n := nI (36 * a + x9)) hm5 rfl dX7_weighStubs_146 (fun h6 hm6 => ?_)
              have hm6 : TQ G h0 h6 v (hrs F i (add12 (add12 v a) x9)) F (chN F m (add12 (add12 v a) x9), dkN F m (add12 (add12 v a) x9), nI (36 * a + x9)) := hm6
              exact a_vret (pc := 149) dX7_weighStubs_149 rfl (zf hz) (k _ _ (by rw [hM]; exact hm6))
      · refine a_aloadn_0 (pc := 48) dX7_weighStubs_48 ?_
        refine gf_X7_12 (pc := 49) rfl dX7_weighStubs_49 hm1.th ?_
        refine a_aloadn_0 (pc := 52) dX7_weighStubs_52 ?_
        refine gf_X7_21 (pc := 53) rfl dX7_weighStubs_53 hm1.th ?_
        refine cv_X7_29 (pc := 56) rfl dX7_weighStubs_56 hm1.c26.choose_spec (Nat.le_of_ble_eq_true rfl) ?_
        refine q_hour (by omega) hz hm1 (fun h4 hm4 => ?_)
        refine a_iinc_4 (pc := 59) (v := nI (i + 1)) dX7_weighStubs_59 (nI_add _ _) (by decide) (by first | rfl | trivial) ?_
        refine a_goto (pc := 62) (tgt := 42) dX7_weighStubs_62 (by decide) ?_
        exact ih (i + 1) _ (by omega) (by omega) hm4
  exact lp (m + 1) 0 _ (by omega) (by omega) hm3
theorem stS_b {F : Lf} {t : Nat} {u : Cv} {rm : Int32} {s : St3} (h : s.1 ≤ s.2.1 ∧ s.2.1 ≤ 37) : (stS F t u rm s).1 ≤ (stS F t u rm s).2.1 ∧ (stS F t u rm s).2.1 ≤ 37 := by
  have h1 := chN_le F t u
  have h2 := dkN_le F t u
  unfold stS
  split
  · exact ⟨h1, by show dkN F t u ≤ 37; omega⟩
  · exact h
theorem fin_f {Q : Option Value → List va_E → Prop} {h : List va_E} {s : St3} (hn : 36 < s.2.1) (k : Q (some (.int (bI (decide (s.2.1 ≤ 36))))) h) : Q (some (.int (nI 0))) h := by
  rw [decide_eq_false (by omega)] at k; exact k
theorem fin_t {Q : Option Value → List va_E → Prop} {h : List va_E} {s : St3} (hn : s.2.1 ≤ 36) (k : Q (some (.int (bI (decide (s.2.1 ≤ 36))))) h) : Q (some (.int (nI 1))) h := by
  rw [decide_eq_true hn] at k; exact k
theorem neg1_inc : (-1 : Int32) + Int32.ofInt 1 = nI 0 := by decide
theorem neg1_gt : ¬ (-1 : Int32) > -1 := by decide
theorem nI_gt_m {n : Nat} (h : n < 2147483648) : nI n > -1 := by
  show (-1 : Int32) < nI n
  rw [Int32.lt_iff_toInt_lt, nI_toInt h]
  have : (-1 : Int32).toInt = -1 := by decide
  omega
set_option maxRecDepth 100000 in
set_option maxHeartbeats 4000000 in
theorem q_findStubs0 {G : Cx} {d : Nat} {h h0 : List va_E} {v x : Cv} {F : Lf} {s : Nat × Nat × Int32} {Q : Option Value → List va_E → Prop} (hd : 12 ≤ d) (hz : gz G = false) (hm : TQ G h0 h v x F s) {m : Nat} (hm9 : m < 1000) (k : ∀ h1 x1 s1, s1 = stA F m v 0 (37, 37, s.2.2) → TQ G h0 h1 v x1 F s1 → Q (some (.int (bI (decide (s1.2.1 ≤ 36))))) h1) : AM G yX7_findStubs cX7_findStubs 7 (some .boolean) d 0 0 [.ref (gB G + 25), .int (nI (0)), .int (nI (m))] h Q := by
  obtain ⟨d, rfl, he⟩ := dpos hd
  refine AM.of [some (.ref (gB G + 25)), some (.int (nI (0))), some (.int (nI (m))), none, none, none, none] pnX7 (Nat.le_of_ble_eq_true rfl) (by simp [lsub, lvI, Value.category]) ?_
  refine a_aloadn_0 (pc := 0) dX7_findStubs_0 ?_
  refine a_bipush (pc := 1) (v := nI 37) dX7_findStubs_1 (by decide) ?_
  refine tqp_49 (n := 37) hm rfl dX7_findStubs_3 (fun h1 hm1 => ?_)
  have hm1 : TQ G h0 h1 v x F (37, s.2.1, s.2.2) := hm1
  refine a_aloadn_0 (pc := 6) dX7_findStubs_6 ?_
  refine a_bipush (pc := 7) (v := nI 37) dX7_findStubs_7 (by decide) ?_
  refine tqp_53 (n := 37) hm1 rfl dX7_findStubs_9 (fun h2 hm2 => ?_)
  have hm2 : TQ G h0 h2 v x F (37, 37, s.2.2) := hm2
  refine a_iloadn_1 (pc := 12) dX7_findStubs_12 ?_
  refine n_if_le (tgt := 21) dX7_findStubs_13 (by decide) (by decide) (fun c_13 => ?_) (fun c_13 => by omega)
  refine a_iconst (pc := 21) (v := (-1)) dX7_findStubs_21 (by decide) ?_
  refine a_istoren_3 (pc := 22) dX7_findStubs_22 (by decide) (by first | rfl | trivial) ?_
  refine a_iloadn_1 (pc := 23) dX7_findStubs_23 ?_
  refine a_iconst (pc := 24) (v := nI 1) dX7_findStubs_24 (by decide) ?_
  refine n_icmp_le (tgt := 33) dX7_findStubs_25 (by decide) (by decide) (by decide) (fun c_25 => ?_) (fun c_25 => by omega)
  refine a_iconst (pc := 33) (v := (-1)) dX7_findStubs_33 (by decide) ?_
  refine a_istore_4 (pc := 34) dX7_findStubs_34 (by decide) (by first | rfl | trivial) ?_
  refine a_iloadn_1 (pc := 36) dX7_findStubs_36 ?_
  refine n_if_le (tgt := 44) dX7_findStubs_37 (by decide) (by decide) (fun c_37 => ?_) (fun c_37 => by omega)
  refine a_iconst (pc := 44) (v := (-1)) dX7_findStubs_44 (by decide) ?_
  refine a_istore_5 (pc := 45) dX7_findStubs_45 (by decide) (by first | rfl | trivial) ?_
  refine a_iload_5 (pc := 47) dX7_findStubs_47 ?_
  refine a_iloadn_3 (pc := 49) dX7_findStubs_49 ?_
  refine a_icmp_gt (pc := 50) (tgt := 128) dX7_findStubs_50 (by decide) (fun c_50 => absurd c_50 neg1_gt) (fun c_50 => ?_)
  refine a_aloadn_0 (pc := 53) dX7_findStubs_53 ?_
  refine gf_X7_53 (pc := 54) rfl dX7_findStubs_54 hm2.th ?_
  refine a_topi (nI (37)) rfl ?_
  refine n_if_le (tgt := 128) dX7_findStubs_57 (by decide) (by decide) (fun c_57 => by omega) (fun c_57 => ?_)
  refine a_iloadn_1 (pc := 60) dX7_findStubs_60 ?_
  refine a_iconst (pc := 61) (v := nI 1) dX7_findStubs_61 (by decide) ?_
  refine n_icmp_le (tgt := 72) dX7_findStubs_62 (by decide) (by decide) (by decide) (fun c_62 => ?_) (fun c_62 => by omega)
  refine a_iconst (pc := 72) (v := (-1)) dX7_findStubs_72 (by decide) ?_
  refine a_istore_6 (pc := 73) dX7_findStubs_73 (by decide) (by first | rfl | trivial) ?_
  refine a_iload_6 (pc := 75) dX7_findStubs_75 ?_
  refine a_iload_4 (pc := 77) dX7_findStubs_77 ?_
  refine a_icmp_gt (pc := 79) (tgt := 122) dX7_findStubs_79 (by decide) (fun c_79 => absurd c_79 neg1_gt) (fun c_79 => ?_)
  refine a_aloadn_0 (pc := 82) dX7_findStubs_82 ?_
  refine gf_X7_53 (pc := 83) rfl dX7_findStubs_83 hm2.th ?_
  refine a_topi (nI (37)) rfl ?_
  refine n_if_le (tgt := 122) dX7_findStubs_86 (by decide) (by decide) (fun c_86 => by omega) (fun c_86 => ?_)
  refine a_aloadn_0 (pc := 89) dX7_findStubs_89 ?_
  refine a_iload_5 (pc := 90) dX7_findStubs_90 ?_
  refine cv_X7_56 (pc := 92) rfl dX7_findStubs_92 hm2.th (Nat.le_of_ble_eq_true rfl) ?_
  refine q_isDarkNow_n (by omega) hz hm2 ?_
  refine b_if_ne (pc := 95) (tgt := 116) dX7_findStubs_95 (by decide) (fun c_95 => by cases c_95) (fun c_95 => ?_)
  refine a_aloadn_0 (pc := 98) dX7_findStubs_98 ?_
  refine a_iload_6 (pc := 99) dX7_findStubs_99 ?_
  refine cv_X7_56 (pc := 101) rfl dX7_findStubs_101 hm2.th (Nat.le_of_ble_eq_true rfl) ?_
  refine q_isDarkNow_n (by omega) hz hm2 ?_
  refine b_if_ne (pc := 104) (tgt := 116) dX7_findStubs_104 (by decide) (fun c_104 => by cases c_104) (fun c_104 => ?_)
  refine a_aloadn_0 (pc := 107) dX7_findStubs_107 ?_
  refine a_iload_5 (pc := 108) dX7_findStubs_108 ?_
  refine a_iload_6 (pc := 110) dX7_findStubs_110 ?_
  refine a_iloadn_2 (pc := 112) dX7_findStubs_112 ?_
  refine cv_X7_59 (pc := 113) rfl dX7_findStubs_113 hm2.th (Nat.le_of_ble_eq_true rfl) ?_
  refine q_weighStubs0 (by omega) hz hm2 (by omega) (show 37 ≤ 1000 ∧ 37 ≤ 1000 by omega) (fun h3 x3 hm3 => ?_)
  obtain ⟨⟨c3, e3, r3⟩, hs3⟩ : ∃ q, q = stS F m v (-9) (37, 37, s.2.2) := ⟨_, rfl⟩
  rw [← hs3] at hm3
  have b3 := stS_b (F := F) (t := m) (u := v) (rm := (-9)) (s := (37, 37, s.2.2)) (show 37 ≤ 37 ∧ 37 ≤ 37 by omega)
  rw [← hs3] at b3
  have b3 : c3 ≤ e3 ∧ e3 ≤ 37 := b3
  refine a_iinc_6 (pc := 116) dX7_findStubs_116 neg1_inc (by decide) (by first | rfl | trivial) ?_
  refine a_goto (pc := 119) (tgt := 75) dX7_findStubs_119 (by decide) ?_
  refine a_iload_6 (pc := 75) dX7_findStubs_75 ?_
  refine a_iload_4 (pc := 77) dX7_findStubs_77 ?_
  refine a_icmp_gt (pc := 79) (tgt := 122) dX7_findStubs_79 (by decide) (fun c_79 => ?_) (fun c_79 => absurd (nI_gt_m (by decide)) c_79)
  refine a_iinc_5 (pc := 122) dX7_findStubs_122 neg1_inc (by decide) (by first | rfl | trivial) ?_
  refine a_goto (pc := 125) (tgt := 47) dX7_findStubs_125 (by decide) ?_
  refine a_iload_5 (pc := 47) dX7_findStubs_47 ?_
  refine a_iloadn_3 (pc := 49) dX7_findStubs_49 ?_
  refine a_icmp_gt (pc := 50) (tgt := 128) dX7_findStubs_50 (by decide) (fun c_50 => ?_) (fun c_50 => absurd (nI_gt_m (by decide)) c_50)
  refine a_aloadn_0 (pc := 128) dX7_findStubs_128 ?_
  refine gf_X7_53 (pc := 129) rfl dX7_findStubs_129 hm3.th ?_
  refine a_topi (nI (e3)) rfl ?_
  refine a_bipush (pc := 132) (v := nI 36) dX7_findStubs_132 (by decide) ?_
  refine n_icmp_gt (tgt := 141) dX7_findStubs_134 (by decide) (by omega) (by decide) (fun c_134 => ?_) (fun c_134 => ?_)
  · refine a_iconst (pc := 141) (v := nI 0) dX7_findStubs_141 (by decide) ?_
    exact a_zret (pc := 142) dX7_findStubs_142 rfl (by first | rfl | exact bI_nar _ | decide) (zf hz) (by first | exact fin_f c_134 (k _ _ _ (by show _ = stS F m v (-9) (37, 37, s.2.2); assumption) hm3) | exact fin_t c_134 (k _ _ _ (by show _ = stS F m v (-9) (37, 37, s.2.2); assumption) hm3))
  · refine a_iconst (pc := 137) (v := nI 1) dX7_findStubs_137 (by decide) ?_
    refine a_goto (pc := 138) (tgt := 142) dX7_findStubs_138 (by decide) ?_
    exact a_zret (pc := 142) dX7_findStubs_142 rfl (by first | rfl | exact bI_nar _ | decide) (zf hz) (by first | exact fin_f c_134 (k _ _ _ (by show _ = stS F m v (-9) (37, 37, s.2.2); assumption) hm3) | exact fin_t c_134 (k _ _ _ (by show _ = stS F m v (-9) (37, 37, s.2.2); assumption) hm3))
set_option maxRecDepth 100000 in
set_option maxHeartbeats 4000000 in
theorem q_findStubs1 {G : Cx} {d : Nat} {h h0 : List va_E} {v x : Cv} {F : Lf} {s : Nat × Nat × Int32} {Q : Option Value → List va_E → Prop} (hd : 12 ≤ d) (hz : gz G = false) (hm : TQ G h0 h v x F s) {m : Nat} (hm9 : m < 1000) (k : ∀ h1 x1 s1, s1 = stA F m v 1 (37, 37, s.2.2) → TQ G h0 h1 v x1 F s1 → Q (some (.int (bI (decide (s1.2.1 ≤ 36))))) h1) : AM G yX7_findStubs cX7_findStubs 7 (some .boolean) d 0 0 [.ref (gB G + 25), .int (nI (1)), .int (nI (m))] h Q := by
  obtain ⟨d, rfl, he⟩ := dpos hd
  refine AM.of [some (.ref (gB G + 25)), some (.int (nI (1))), some (.int (nI (m))), none, none, none, none] pnX7 (Nat.le_of_ble_eq_true rfl) (by simp [lsub, lvI, Value.category]) ?_
  refine a_aloadn_0 (pc := 0) dX7_findStubs_0 ?_
  refine a_bipush (pc := 1) (v := nI 37) dX7_findStubs_1 (by decide) ?_
  refine tqp_49 (n := 37) hm rfl dX7_findStubs_3 (fun h1 hm1 => ?_)
  have hm1 : TQ G h0 h1 v x F (37, s.2.1, s.2.2) := hm1
  refine a_aloadn_0 (pc := 6) dX7_findStubs_6 ?_
  refine a_bipush (pc := 7) (v := nI 37) dX7_findStubs_7 (by decide) ?_
  refine tqp_53 (n := 37) hm1 rfl dX7_findStubs_9 (fun h2 hm2 => ?_)
  have hm2 : TQ G h0 h2 v x F (37, 37, s.2.2) := hm2
  refine a_iloadn_1 (pc := 12) dX7_findStubs_12 ?_
  refine n_if_le (tgt := 21) dX7_findStubs_13 (by decide) (by decide) (fun c_13 => by omega) (fun c_13 => ?_)
  refine a_bipush (pc := 16) (v := nI 35) dX7_findStubs_16 (by decide) ?_
  refine a_goto (pc := 18) (tgt := 22) dX7_findStubs_18 (by decide) ?_
  refine a_istoren_3 (pc := 22) dX7_findStubs_22 (by decide) (by first | rfl | trivial) ?_
  refine a_iloadn_1 (pc := 23) dX7_findStubs_23 ?_
  refine a_iconst (pc := 24) (v := nI 1) dX7_findStubs_24 (by decide) ?_
  refine n_icmp_le (tgt := 33) dX7_findStubs_25 (by decide) (by decide) (by decide) (fun c_25 => ?_) (fun c_25 => by omega)
  refine a_iconst (pc := 33) (v := (-1)) dX7_findStubs_33 (by decide) ?_
  refine a_istore_4 (pc := 34) dX7_findStubs_34 (by decide) (by first | rfl | trivial) ?_
  refine a_iloadn_1 (pc := 36) dX7_findStubs_36 ?_
  refine n_if_le (tgt := 44) dX7_findStubs_37 (by decide) (by decide) (fun c_37 => by omega) (fun c_37 => ?_)
  refine a_iconst (pc := 40) (v := nI 0) dX7_findStubs_40 (by decide) ?_
  refine a_goto (pc := 41) (tgt := 45) dX7_findStubs_41 (by decide) ?_
  refine a_istore_5 (pc := 45) dX7_findStubs_45 (by decide) (by first | rfl | trivial) ?_
  have lp : ∀ (n : Nat) (a : Nat) (h1 : List va_E) (x1 : Cv) (ch dk : Nat) (rm : Int32), 37 - a < n → (a ≤ 36) → ((ch, dk, rm) = sf1 F m v (37, 37, s.2.2) a) → (ch ≤ dk ∧ dk ≤ 37) → (TQ G h0 h1 v x1 F (ch, dk, rm)) → AW G yX7_findStubs cX7_findStubs 7 (some .boolean) (rmx (d + 1) 0 0) (ZQ G 0 0 (h.length + 0) Q) 0 0 47 [some (.ref (gB G + 25)), some (.int (nI (1))), some (.int (nI (m))), some (.int (nI (35))), some (.int ((-1))), some (.int (nI (a))), none] [] h1 := by
    intro n
    induction n with
    | zero => intro a h1 x1 ch dk rm hn; exact absurd hn (Nat.not_lt_zero _)
    | succ n ih =>
      intro a h1 x1 ch dk rm hn ha hst hcd hm1
      refine a_iload_5 (pc := 47) dX7_findStubs_47 ?_
      refine a_iloadn_3 (pc := 49) dX7_findStubs_49 ?_
      refine n_icmp_gt (tgt := 128) dX7_findStubs_50 (by decide) (by omega) (by decide) (fun c_50 => ?_) (fun c_50 => ?_)
      · have hE : (ch, dk, rm) = sf1 F m v (37, 37, s.2.2) 36 := by
          first
          | exact (by rw [show (36 : Nat) = a by omega]; exact hst)
          | exact (stop_at (f := sf1 F m v (37, 37, s.2.2)) (a := a) (sf1_stop (by rw [← hst]; exact ⟨by show ch = 0; omega, by show dk = 0; omega⟩)) hst (by omega))
        refine a_aloadn_0 (pc := 128) dX7_findStubs_128 ?_
        refine gf_X7_53 (pc := 129) rfl dX7_findStubs_129 hm1.th ?_
        refine a_topi (nI (dk)) rfl ?_
        refine a_bipush (pc := 132) (v := nI 36) dX7_findStubs_132 (by decide) ?_
        refine n_icmp_gt (tgt := 141) dX7_findStubs_134 (by decide) (by omega) (by decide) (fun c_134 => ?_) (fun c_134 => ?_)
        · refine a_iconst (pc := 141) (v := nI 0) dX7_findStubs_141 (by decide) ?_
          exact a_zret (pc := 142) dX7_findStubs_142 rfl (by first | rfl | exact bI_nar _ | decide) (zf hz) (by first | exact fin_f c_134 (k _ _ _ (show _ = stA F m v 1 (37, 37, s.2.2) from hE) hm1) | exact fin_t c_134 (k _ _ _ (show _ = stA F m v 1 (37, 37, s.2.2) from hE) hm1))
        · refine a_iconst (pc := 137) (v := nI 1) dX7_findStubs_137 (by decide) ?_
          refine a_goto (pc := 138) (tgt := 142) dX7_findStubs_138 (by decide) ?_
          exact a_zret (pc := 142) dX7_findStubs_142 rfl (by first | rfl | exact bI_nar _ | decide) (zf hz) (by first | exact fin_f c_134 (k _ _ _ (show _ = stA F m v 1 (37, 37, s.2.2) from hE) hm1) | exact fin_t c_134 (k _ _ _ (show _ = stA F m v 1 (37, 37, s.2.2) from hE) hm1))
      · refine a_aloadn_0 (pc := 53) dX7_findStubs_53 ?_
        refine gf_X7_53 (pc := 54) rfl dX7_findStubs_54 hm1.th ?_
        refine a_topi (nI (dk)) rfl ?_
        refine n_if_le (tgt := 128) dX7_findStubs_57 (by decide) (by omega) (fun c_57 => ?_) (fun c_57 => ?_)
        · have hE : (ch, dk, rm) = sf1 F m v (37, 37, s.2.2) 36 := by
            first
            | exact (by rw [show (36 : Nat) = a by omega]; exact hst)
            | exact (stop_at (f := sf1 F m v (37, 37, s.2.2)) (a := a) (sf1_stop (by rw [← hst]; exact ⟨by show ch = 0; omega, by show dk = 0; omega⟩)) hst (by omega))
          refine a_aloadn_0 (pc := 128) dX7_findStubs_128 ?_
          refine gf_X7_53 (pc := 129) rfl dX7_findStubs_129 hm1.th ?_
          refine a_topi (nI (dk)) rfl ?_
          refine a_bipush (pc := 132) (v := nI 36) dX7_findStubs_132 (by decide) ?_
          refine n_icmp_gt (tgt := 141) dX7_findStubs_134 (by decide) (by omega) (by decide) (fun c_134 => ?_) (fun c_134 => ?_)
          · refine a_iconst (pc := 141) (v := nI 0) dX7_findStubs_141 (by decide) ?_
            exact a_zret (pc := 142) dX7_findStubs_142 rfl (by first | rfl | exact bI_nar _ | decide) (zf hz) (by first | exact fin_f c_134 (k _ _ _ (show _ = stA F m v 1 (37, 37, s.2.2) from hE) hm1) | exact fin_t c_134 (k _ _ _ (show _ = stA F m v 1 (37, 37, s.2.2) from hE) hm1))
          · refine a_iconst (pc := 137) (v := nI 1) dX7_findStubs_137 (by decide) ?_
            refine a_goto (pc := 138) (tgt := 142) dX7_findStubs_138 (by decide) ?_
            exact a_zret (pc := 142) dX7_findStubs_142 rfl (by first | rfl | exact bI_nar _ | decide) (zf hz) (by first | exact fin_f c_134 (k _ _ _ (show _ = stA F m v 1 (37, 37, s.2.2) from hE) hm1) | exact fin_t c_134 (k _ _ _ (show _ = stA F m v 1 (37, 37, s.2.2) from hE) hm1))
        · refine a_iloadn_1 (pc := 60) dX7_findStubs_60 ?_
          refine a_iconst (pc := 61) (v := nI 1) dX7_findStubs_61 (by decide) ?_
          refine n_icmp_le (tgt := 72) dX7_findStubs_62 (by decide) (by decide) (by decide) (fun c_62 => ?_) (fun c_62 => by omega)
          refine a_iconst (pc := 72) (v := (-1)) dX7_findStubs_72 (by decide) ?_
          refine a_istore_6 (pc := 73) dX7_findStubs_73 (by decide) (by first | rfl | trivial) ?_
          refine a_iload_6 (pc := 75) dX7_findStubs_75 ?_
          refine a_iload_4 (pc := 77) dX7_findStubs_77 ?_
          refine a_icmp_gt (pc := 79) (tgt := 122) dX7_findStubs_79 (by decide) (fun c_79 => absurd c_79 neg1_gt) (fun c_79 => ?_)
          refine a_aloadn_0 (pc := 82) dX7_findStubs_82 ?_
          refine gf_X7_53 (pc := 83) rfl dX7_findStubs_83 hm1.th ?_
          refine a_topi (nI (dk)) rfl ?_
          refine n_if_le (tgt := 122) dX7_findStubs_86 (by decide) (by omega) (fun c_86 => by omega) (fun c_86 => ?_)
          refine a_aloadn_0 (pc := 89) dX7_findStubs_89 ?_
          refine a_iload_5 (pc := 90) dX7_findStubs_90 ?_
          refine cv_X7_56 (pc := 92) rfl dX7_findStubs_92 hm1.th (Nat.le_of_ble_eq_true rfl) ?_
          refine q_isDarkNow (by omega) hz hm1 (by omega) ?_
          refine b_if_ne (pc := 95) (tgt := 116) dX7_findStubs_95 (by decide) (fun c_95 => ?_) (fun c_95 => ?_)
          · refine a_iinc_6 (pc := 116) dX7_findStubs_116 neg1_inc (by decide) (by first | rfl | trivial) ?_
            refine a_goto (pc := 119) (tgt := 75) dX7_findStubs_119 (by decide) ?_
            refine a_iload_6 (pc := 75) dX7_findStubs_75 ?_
            refine a_iload_4 (pc := 77) dX7_findStubs_77 ?_
            refine a_icmp_gt (pc := 79) (tgt := 122) dX7_findStubs_79 (by decide) (fun c_79 => ?_) (fun c_79 => absurd (nI_gt_m (by decide)) c_79)
            refine a_iinc_5 (pc := 122) (v := nI (a + 1)) dX7_findStubs_122 (nI_add _ _) (by decide) (by first | rfl | trivial) ?_
            refine a_goto (pc := 125) (tgt := 47) dX7_findStubs_125 (by decide) ?_
            refine a_ls (ls' := [some _, some _, some _, some _, some _, some _, none, none]) ⟨rfl, rfl, rfl, rfl, rfl, rfl, trivial⟩ ?_
            first
              | exact ih (a + 1) _ _ _ _ _ (by omega) (by omega) (by rw [sf1, if_neg (by rw [c_95]; simp), ← hst]; assumption) (by omega) hm1
              | exact ih (a + 1) _ _ _ _ _ (by omega) (by omega) (by rw [sf1, if_pos c_95]; exact hst) (by omega) hm1
              | exact ih (a + 1) _ _ _ _ _ (by omega) (by omega) (by rw [show a + 1 = a + 1 from rfl, sf1_stop (by rw [← hst]; exact ⟨by show ch = 0; omega, by show dk = 0; omega⟩) 1]; exact hst) (by omega) hm1
          · refine a_aloadn_0 (pc := 98) dX7_findStubs_98 ?_
            refine a_iload_6 (pc := 99) dX7_findStubs_99 ?_
            refine cv_X7_56 (pc := 101) rfl dX7_findStubs_101 hm1.th (Nat.le_of_ble_eq_true rfl) ?_
            refine q_isDarkNow_n (by omega) hz hm1 ?_
            refine b_if_ne (pc := 104) (tgt := 116) dX7_findStubs_104 (by decide) (fun c_104 => by cases c_104) (fun c_104 => ?_)
            refine a_aloadn_0 (pc := 107) dX7_findStubs_107 ?_
            refine a_iload_5 (pc := 108) dX7_findStubs_108 ?_
            refine a_iload_6 (pc := 110) dX7_findStubs_110 ?_
            refine a_iloadn_2 (pc := 112) dX7_findStubs_112 ?_
            refine cv_X7_59 (pc := 113) rfl dX7_findStubs_113 hm1.th (Nat.le_of_ble_eq_true rfl) ?_
            refine q_weighStubs1 (by omega) hz hm1 (by omega) (show ch ≤ 1000 ∧ dk ≤ 1000 by omega) (by omega) (fun h4 x4 hm4 => ?_)
            obtain ⟨⟨c4, e4, r4⟩, hs4⟩ : ∃ q, q = stS F m (add12 v a) (nI a) (ch, dk, rm) := ⟨_, rfl⟩
            rw [← hs4] at hm4
            have b4 := stS_b (F := F) (t := m) (u := (add12 v a)) (rm := (nI a)) (s := (ch, dk, rm)) (show ch ≤ dk ∧ dk ≤ 37 by omega)
            rw [← hs4] at b4
            have b4 : c4 ≤ e4 ∧ e4 ≤ 37 := b4
            refine a_iinc_6 (pc := 116) dX7_findStubs_116 neg1_inc (by decide) (by first | rfl | trivial) ?_
            refine a_goto (pc := 119) (tgt := 75) dX7_findStubs_119 (by decide) ?_
            refine a_iload_6 (pc := 75) dX7_findStubs_75 ?_
            refine a_iload_4 (pc := 77) dX7_findStubs_77 ?_
            refine a_icmp_gt (pc := 79) (tgt := 122) dX7_findStubs_79 (by decide) (fun c_79 => ?_) (fun c_79 => absurd (nI_gt_m (by decide)) c_79)
            refine a_iinc_5 (pc := 122) (v := nI (a + 1)) dX7_findStubs_122 (nI_add _ _) (by decide) (by first | rfl | trivial) ?_
            refine a_goto (pc := 125) (tgt := 47) dX7_findStubs_125 (by decide) ?_
            refine a_ls (ls' := [some _, some _, some _, some _, some _, some _, none, none]) ⟨rfl, rfl, rfl, rfl, rfl, rfl, trivial⟩ ?_
            first
              | exact ih (a + 1) _ _ _ _ _ (by omega) (by omega) (by rw [sf1, if_neg (by rw [c_95]; simp), ← hst]; assumption) (by omega) hm4
              | exact ih (a + 1) _ _ _ _ _ (by omega) (by omega) (by rw [sf1, if_pos c_95]; exact hst) (by omega) hm4
              | exact ih (a + 1) _ _ _ _ _ (by omega) (by omega) (by rw [show a + 1 = a + 1 from rfl, sf1_stop (by rw [← hst]; exact ⟨by show ch = 0; omega, by show dk = 0; omega⟩) 1]; exact hst) (by omega) hm4
  exact lp 38 0 _ _ _ _ _ (by omega) (by omega) rfl (by omega) hm2
set_option maxRecDepth 100000 in
set_option maxHeartbeats 4000000 in
theorem q_findStubs2 {G : Cx} {d : Nat} {h h0 : List va_E} {v x : Cv} {F : Lf} {s : Nat × Nat × Int32} {Q : Option Value → List va_E → Prop} (hd : 12 ≤ d) (hz : gz G = false) (hm : TQ G h0 h v x F s) {m : Nat} (hm9 : m < 1000) (k : ∀ h1 x1 s1, s1 = stA F m v 2 (37, 37, s.2.2) → TQ G h0 h1 v x1 F s1 → Q (some (.int (bI (decide (s1.2.1 ≤ 36))))) h1) : AM G yX7_findStubs cX7_findStubs 7 (some .boolean) d 0 0 [.ref (gB G + 25), .int (nI (2)), .int (nI (m))] h Q := by
  obtain ⟨d, rfl, he⟩ := dpos hd
  refine AM.of [some (.ref (gB G + 25)), some (.int (nI (2))), some (.int (nI (m))), none, none, none, none] pnX7 (Nat.le_of_ble_eq_true rfl) (by simp [lsub, lvI, Value.category]) ?_
  refine a_aloadn_0 (pc := 0) dX7_findStubs_0 ?_
  refine a_bipush (pc := 1) (v := nI 37) dX7_findStubs_1 (by decide) ?_
  refine tqp_49 (n := 37) hm rfl dX7_findStubs_3 (fun h1 hm1 => ?_)
  have hm1 : TQ G h0 h1 v x F (37, s.2.1, s.2.2) := hm1
  refine a_aloadn_0 (pc := 6) dX7_findStubs_6 ?_
  refine a_bipush (pc := 7) (v := nI 37) dX7_findStubs_7 (by decide) ?_
  refine tqp_53 (n := 37) hm1 rfl dX7_findStubs_9 (fun h2 hm2 => ?_)
  have hm2 : TQ G h0 h2 v x F (37, 37, s.2.2) := hm2
  refine a_iloadn_1 (pc := 12) dX7_findStubs_12 ?_
  refine n_if_le (tgt := 21) dX7_findStubs_13 (by decide) (by decide) (fun c_13 => by omega) (fun c_13 => ?_)
  refine a_bipush (pc := 16) (v := nI 35) dX7_findStubs_16 (by decide) ?_
  refine a_goto (pc := 18) (tgt := 22) dX7_findStubs_18 (by decide) ?_
  refine a_istoren_3 (pc := 22) dX7_findStubs_22 (by decide) (by first | rfl | trivial) ?_
  refine a_iloadn_1 (pc := 23) dX7_findStubs_23 ?_
  refine a_iconst (pc := 24) (v := nI 1) dX7_findStubs_24 (by decide) ?_
  refine n_icmp_le (tgt := 33) dX7_findStubs_25 (by decide) (by decide) (by decide) (fun c_25 => by omega) (fun c_25 => ?_)
  refine a_bipush (pc := 28) (v := nI 35) dX7_findStubs_28 (by decide) ?_
  refine a_goto (pc := 30) (tgt := 34) dX7_findStubs_30 (by decide) ?_
  refine a_istore_4 (pc := 34) dX7_findStubs_34 (by decide) (by first | rfl | trivial) ?_
  refine a_iloadn_1 (pc := 36) dX7_findStubs_36 ?_
  refine n_if_le (tgt := 44) dX7_findStubs_37 (by decide) (by decide) (fun c_37 => by omega) (fun c_37 => ?_)
  refine a_iconst (pc := 40) (v := nI 0) dX7_findStubs_40 (by decide) ?_
  refine a_goto (pc := 41) (tgt := 45) dX7_findStubs_41 (by decide) ?_
  refine a_istore_5 (pc := 45) dX7_findStubs_45 (by decide) (by first | rfl | trivial) ?_
  have la : ∀ (n : Nat) (a : Nat) (h1 : List va_E) (x1 : Cv) (ch dk : Nat) (rm : Int32), 37 - a < n → (a ≤ 36) → ((ch, dk, rm) = sf3 F m v (37, 37, s.2.2) a) → (ch ≤ dk ∧ dk ≤ 37) → (TQ G h0 h1 v x1 F (ch, dk, rm)) → AW G yX7_findStubs cX7_findStubs 7 (some .boolean) (rmx (d + 1) 0 0) (ZQ G 0 0 (h.length + 0) Q) 0 0 47 [some (.ref (gB G + 25)), some (.int (nI (2))), some (.int (nI (m))), some (.int (nI (35))), some (.int (nI (35))), some (.int (nI (a))), none] [] h1 := by
    intro n
    induction n with
    | zero => intro a h1 x1 ch dk rm hn; exact absurd hn (Nat.not_lt_zero _)
    | succ n iha =>
      intro a h1 x1 ch dk rm hn ha hst hcd hm1
      refine a_iload_5 (pc := 47) dX7_findStubs_47 ?_
      refine a_iloadn_3 (pc := 49) dX7_findStubs_49 ?_
      refine n_icmp_gt (tgt := 128) dX7_findStubs_50 (by decide) (by omega) (by decide) (fun c_50 => ?_) (fun c_50 => ?_)
      · have hE : (ch, dk, rm) = sf3 F m v (37, 37, s.2.2) 36 := by
          first
          | (rw [show (36 : Nat) = a by omega]; exact hst)
          | exact stop_at (f := sf3 F m v (37, 37, s.2.2)) (a := a) (sf3_stop (by rw [← hst]; exact ⟨by show ch = 0; omega, by show dk = 0; omega⟩)) hst (by omega)
        refine a_aloadn_0 (pc := 128) dX7_findStubs_128 ?_
        refine gf_X7_53 (pc := 129) rfl dX7_findStubs_129 hm1.th ?_
        refine a_topi (nI (dk)) rfl ?_
        refine a_bipush (pc := 132) (v := nI 36) dX7_findStubs_132 (by decide) ?_
        refine n_icmp_gt (tgt := 141) dX7_findStubs_134 (by decide) (by omega) (by decide) (fun c_134 => ?_) (fun c_134 => ?_)
        · refine a_iconst (pc := 141) (v := nI 0) dX7_findStubs_141 (by decide) ?_
          exact a_zret (pc := 142) dX7_findStubs_142 rfl (by first | rfl | exact bI_nar _ | decide) (zf hz) (by first | exact fin_f c_134 (k _ _ _ (show _ = stA F m v 2 (37, 37, s.2.2) from hE) hm1) | exact fin_t c_134 (k _ _ _ (show _ = stA F m v 2 (37, 37, s.2.2) from hE) hm1))
        · refine a_iconst (pc := 137) (v := nI 1) dX7_findStubs_137 (by decide) ?_
          refine a_goto (pc := 138) (tgt := 142) dX7_findStubs_138 (by decide) ?_
          exact a_zret (pc := 142) dX7_findStubs_142 rfl (by first | rfl | exact bI_nar _ | decide) (zf hz) (by first | exact fin_f c_134 (k _ _ _ (show _ = stA F m v 2 (37, 37, s.2.2) from hE) hm1) | exact fin_t c_134 (k _ _ _ (show _ = stA F m v 2 (37, 37, s.2.2) from hE) hm1))
      · refine a_aloadn_0 (pc := 53) dX7_findStubs_53 ?_
        refine gf_X7_53 (pc := 54) rfl dX7_findStubs_54 hm1.th ?_
        refine a_topi (nI (dk)) rfl ?_
        refine n_if_le (tgt := 128) dX7_findStubs_57 (by decide) (by omega) (fun c_57 => ?_) (fun c_57 => ?_)
        · have hE : (ch, dk, rm) = sf3 F m v (37, 37, s.2.2) 36 := by
            first
            | (rw [show (36 : Nat) = a by omega]; exact hst)
            | exact stop_at (f := sf3 F m v (37, 37, s.2.2)) (a := a) (sf3_stop (by rw [← hst]; exact ⟨by show ch = 0; omega, by show dk = 0; omega⟩)) hst (by omega)
          refine a_aloadn_0 (pc := 128) dX7_findStubs_128 ?_
          refine gf_X7_53 (pc := 129) rfl dX7_findStubs_129 hm1.th ?_
          refine a_topi (nI (dk)) rfl ?_
          refine a_bipush (pc := 132) (v := nI 36) dX7_findStubs_132 (by decide) ?_
          refine n_icmp_gt (tgt := 141) dX7_findStubs_134 (by decide) (by omega) (by decide) (fun c_134 => ?_) (fun c_134 => ?_)
          · refine a_iconst (pc := 141) (v := nI 0) dX7_findStubs_141 (by decide) ?_
            exact a_zret (pc := 142) dX7_findStubs_142 rfl (by first | rfl | exact bI_nar _ | decide) (zf hz) (by first | exact fin_f c_134 (k _ _ _ (show _ = stA F m v 2 (37, 37, s.2.2) from hE) hm1) | exact fin_t c_134 (k _ _ _ (show _ = stA F m v 2 (37, 37, s.2.2) from hE) hm1))
          · refine a_iconst (pc := 137) (v := nI 1) dX7_findStubs_137 (by decide) ?_
            refine a_goto (pc := 138) (tgt := 142) dX7_findStubs_138 (by decide) ?_
            exact a_zret (pc := 142) dX7_findStubs_142 rfl (by first | rfl | exact bI_nar _ | decide) (zf hz) (by first | exact fin_f c_134 (k _ _ _ (show _ = stA F m v 2 (37, 37, s.2.2) from hE) hm1) | exact fin_t c_134 (k _ _ _ (show _ = stA F m v 2 (37, 37, s.2.2) from hE) hm1))
        · refine a_iloadn_1 (pc := 60) dX7_findStubs_60 ?_
          refine a_iconst (pc := 61) (v := nI 1) dX7_findStubs_61 (by decide) ?_
          refine n_icmp_le (tgt := 72) dX7_findStubs_62 (by decide) (by decide) (by decide) (fun c_62 => by omega) (fun c_62 => ?_)
          refine a_iload_5 (pc := 65) dX7_findStubs_65 ?_
          refine a_iconst (pc := 67) (v := nI 1) dX7_findStubs_67 (by decide) ?_
          refine n_iadd dX7_findStubs_68 ?_
          refine a_goto (pc := 69) (tgt := 73) dX7_findStubs_69 (by decide) ?_
          refine a_istore_6 (pc := 73) dX7_findStubs_73 (by decide) (by first | rfl | trivial) ?_
          obtain ⟨S1, hS1⟩ : ∃ S1, S1 = sf3 F m v (37, 37, s.2.2) a := ⟨_, rfl⟩
          rw [← hS1] at hst
          have lb : ∀ (n : Nat) (x9 : Nat) (h1 : List va_E) (x1 : Cv) (ch dk : Nat) (rm : Int32), 37 - x9 < n → (a < x9 ∧ x9 ≤ 36) → ((ch, dk, rm) = sf2 F m v a S1 x9) → (ch ≤ dk ∧ dk ≤ 37) → (TQ G h0 h1 v x1 F (ch, dk, rm)) → AW G yX7_findStubs cX7_findStubs 7 (some .boolean) (rmx (d + 1) 0 0) (ZQ G 0 0 (h.length + 0) Q) 0 0 75 [some (.ref (gB G + 25)), some (.int (nI (2))), some (.int (nI (m))), some (.int (nI (35))), some (.int (nI (35))), some (.int (nI (a))), some (.int (nI (x9)))] [] h1 := by
            intro n
            induction n with
            | zero => intro x9 h1 x1 ch dk rm hn; exact absurd hn (Nat.not_lt_zero _)
            | succ n ih =>
              intro x9 h1 x1 ch dk rm hn hx hst hcd hm1
              refine a_iload_6 (pc := 75) dX7_findStubs_75 ?_
              refine a_iload_4 (pc := 77) dX7_findStubs_77 ?_
              refine n_icmp_gt (tgt := 122) dX7_findStubs_79 (by decide) (by omega) (by decide) (fun c_79 => ?_) (fun c_79 => ?_)
              · have hE : (ch, dk, rm) = sf2 F m v a S1 36 := by
                  first
                  | (rw [show (36 : Nat) = x9 by omega]; exact hst)
                  | exact stop_at (f := sf2 F m v a S1) (a := x9) (sf2_stop (by rw [← hst]; exact ⟨by show ch = 0; omega, by show dk = 0; omega⟩)) hst (by omega)
                refine a_iinc_5 (pc := 122) (v := nI (a + 1)) dX7_findStubs_122 (nI_add _ _) (by decide) (by first | rfl | trivial) ?_
                refine a_goto (pc := 125) (tgt := 47) dX7_findStubs_125 (by decide) ?_
                refine a_ls (ls' := [some _, some _, some _, some _, some _, some _, none]) ⟨rfl, rfl, rfl, rfl, rfl, rfl, trivial⟩ ?_
                exact iha (a + 1) _ _ _ _ _ (by omega) (by omega) (by rw [sf3, ← hS1]; exact hE) (by omega) hm1
              · refine a_aloadn_0 (pc := 82) dX7_findStubs_82 ?_
                refine gf_X7_53 (pc := 83) rfl dX7_findStubs_83 hm1.th ?_
                refine a_topi (nI (dk)) rfl ?_
                refine n_if_le (tgt := 122) dX7_findStubs_86 (by decide) (by omega) (fun c_86 => ?_) (fun c_86 => ?_)
                · have hE : (ch, dk, rm) = sf2 F m v a S1 36 := by
                    first
                    | (rw [show (36 : Nat) = x9 by omega]; exact hst)
                    | exact stop_at (f := sf2 F m v a S1) (a := x9) (sf2_stop (by rw [← hst]; exact ⟨by show ch = 0; omega, by show dk = 0; omega⟩)) hst (by omega)
                  refine a_iinc_5 (pc := 122) (v := nI (a + 1)) dX7_findStubs_122 (nI_add _ _) (by decide) (by first | rfl | trivial) ?_
                  refine a_goto (pc := 125) (tgt := 47) dX7_findStubs_125 (by decide) ?_
                  refine a_ls (ls' := [some _, some _, some _, some _, some _, some _, none]) ⟨rfl, rfl, rfl, rfl, rfl, rfl, trivial⟩ ?_
                  exact iha (a + 1) _ _ _ _ _ (by omega) (by omega) (by rw [sf3, ← hS1]; exact hE) (by omega) hm1
                · refine a_aloadn_0 (pc := 89) dX7_findStubs_89 ?_
                  refine a_iload_5 (pc := 90) dX7_findStubs_90 ?_
                  refine cv_X7_56 (pc := 92) rfl dX7_findStubs_92 hm1.th (Nat.le_of_ble_eq_true rfl) ?_
                  refine q_isDarkNow (by omega) hz hm1 (by omega) ?_
                  refine b_if_ne (pc := 95) (tgt := 116) dX7_findStubs_95 (by decide) (fun c_95 => ?_) (fun c_95 => ?_)
                  · refine a_iinc_6 (pc := 116) (v := nI (x9 + 1)) dX7_findStubs_116 (nI_add _ _) (by decide) (by first | rfl | trivial) ?_
                    refine a_goto (pc := 119) (tgt := 75) dX7_findStubs_119 (by decide) ?_
                    first
                      | exact ih (x9 + 1) _ _ _ _ _ (by omega) (by omega) (by rw [sf2, if_neg (by rw [c_95, c_104]; simp; omega), ← hst]; assumption) (by omega) hm1
                      | exact ih (x9 + 1) _ _ _ _ _ (by omega) (by omega) (by rw [sf2, if_pos (Or.inr (Or.inl c_95))]; exact hst) (by omega) hm1
                      | exact ih (x9 + 1) _ _ _ _ _ (by omega) (by omega) (by rw [sf2, if_pos (Or.inr (Or.inr c_104))]; exact hst) (by omega) hm1
                  · refine a_aloadn_0 (pc := 98) dX7_findStubs_98 ?_
                    refine a_iload_6 (pc := 99) dX7_findStubs_99 ?_
                    refine cv_X7_56 (pc := 101) rfl dX7_findStubs_101 hm1.th (Nat.le_of_ble_eq_true rfl) ?_
                    refine q_isDarkNow (by omega) hz hm1 (by omega) ?_
                    refine b_if_ne (pc := 104) (tgt := 116) dX7_findStubs_104 (by decide) (fun c_104 => ?_) (fun c_104 => ?_)
                    · refine a_iinc_6 (pc := 116) (v := nI (x9 + 1)) dX7_findStubs_116 (nI_add _ _) (by decide) (by first | rfl | trivial) ?_
                      refine a_goto (pc := 119) (tgt := 75) dX7_findStubs_119 (by decide) ?_
                      first
                        | exact ih (x9 + 1) _ _ _ _ _ (by omega) (by omega) (by rw [sf2, if_neg (by rw [c_95, c_104]; simp; omega), ← hst]; assumption) (by omega) hm1
                        | exact ih (x9 + 1) _ _ _ _ _ (by omega) (by omega) (by rw [sf2, if_pos (Or.inr (Or.inl c_95))]; exact hst) (by omega) hm1
                        | exact ih (x9 + 1) _ _ _ _ _ (by omega) (by omega) (by rw [sf2, if_pos (Or.inr (Or.inr c_104))]; exact hst) (by omega) hm1
                    · refine a_aloadn_0 (pc := 107) dX7_findStubs_107 ?_
                      refine a_iload_5 (pc := 108) dX7_findStubs_108 ?_
                      refine a_iload_6 (pc := 110) dX7_findStubs_110 ?_
                      refine a_iloadn_2 (pc := 112) dX7_findStubs_112 ?_
                      refine cv_X7_59 (pc := 113) rfl dX7_findStubs_113 hm1.th (Nat.le_of_ble_eq_true rfl) ?_
                      refine q_weighStubs2 (by omega) hz hm1 (by omega) (show ch ≤ 1000 ∧ dk ≤ 1000 by omega) (by omega) (by omega) (fun h4 x4 hm4 => ?_)
                      obtain ⟨⟨c4, e4, r4⟩, hs4⟩ : ∃ q, q = stS F m (add12 (add12 v a) x9) (nI (36 * a + x9)) (ch, dk, rm) := ⟨_, rfl⟩
                      rw [← hs4] at hm4
                      have b4 := stS_b (F := F) (t := m) (u := (add12 (add12 v a) x9)) (rm := (nI (36 * a + x9))) (s := (ch, dk, rm)) (show ch ≤ dk ∧ dk ≤ 37 by omega)
                      rw [← hs4] at b4
                      have b4 : c4 ≤ e4 ∧ e4 ≤ 37 := b4
                      refine a_iinc_6 (pc := 116) (v := nI (x9 + 1)) dX7_findStubs_116 (nI_add _ _) (by decide) (by first | rfl | trivial) ?_
                      refine a_goto (pc := 119) (tgt := 75) dX7_findStubs_119 (by decide) ?_
                      first
                        | exact ih (x9 + 1) _ _ _ _ _ (by omega) (by omega) (by rw [sf2, if_neg (by rw [c_95, c_104]; simp; omega), ← hst]; assumption) (by omega) hm4
                        | exact ih (x9 + 1) _ _ _ _ _ (by omega) (by omega) (by rw [sf2, if_pos (Or.inr (Or.inl c_95))]; exact hst) (by omega) hm4
                        | exact ih (x9 + 1) _ _ _ _ _ (by omega) (by omega) (by rw [sf2, if_pos (Or.inr (Or.inr c_104))]; exact hst) (by omega) hm4
          exact lb 38 (a + 1) _ _ _ _ _ (by omega) (by omega) (by rw [sf2_a F m v a S1 (a + 1) (Nat.le_refl _)]; exact hst) (by omega) hm1
  exact la 38 0 _ _ _ _ _ (by omega) (by omega) rfl (by omega) hm2
theorem q_findStubs {G : Cx} {d : Nat} {h h0 : List va_E} {v x : Cv} {F : Lf} {s : Nat × Nat × Int32} {Q : Option Value → List va_E → Prop} (hd : 12 ≤ d) (hz : gz G = false) (hm : TQ G h0 h v x F s) {m k9 : Nat} (hk9 : k9 ≤ 2) (hm9 : m < 1000) (k : ∀ h1 x1 s1, s1 = stA F m v k9 (37, 37, s.2.2) → TQ G h0 h1 v x1 F s1 → Q (some (.int (bI (decide (s1.2.1 ≤ 36))))) h1) : AM G yX7_findStubs cX7_findStubs 7 (some .boolean) d 0 0 [.ref (gB G + 25), .int (nI k9), .int (nI m)] h Q := by
  rcases (show k9 = 0 ∨ k9 = 1 ∨ k9 = 2 by omega) with rfl | rfl | rfl
  · exact q_findStubs0 hd hz hm hm9 k
  · exact q_findStubs1 hd hz hm hm9 k
  · exact q_findStubs2 hd hz hm hm9 k
