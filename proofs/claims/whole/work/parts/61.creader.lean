/-! LAW and READER: the law's text at t, the reader's at t', the tape -/
def LR (G : Cx) (h : List va_E) (F : Lf) (c : Nat) (b : Nat → Nat) (n : Nat) : Prop := ∃ t t' : Nat, ((t = 8 ∧ t' = 18) ∨ (t = 18 ∧ t' = 8)) ∧ (∃ rd x vf m y, LawAt G h F t rd x vf m y ∧ rd ≤ c) ∧ (∃ (p : Nat) (f : Int32) (x : Tx), h[16]? = some (.inr (3, [.ref (gB G + 17), .int (nI n), .int (nI p), .int f, .ref (gB G + t')])) ∧ TSh G h t' x) ∧ h[17]? = some (ints G 120 b) ∧ ∃ x, TSh G h t x
theorem LR.ok {G : Cx} {h : List va_E} {F : Lf} {c n : Nat} {b : Nat → Nat} (H : LR G h F c b n) : LawOK G h F := by
  obtain ⟨t, t', ht, ⟨rd, x, vf, m, y, L, -⟩, -⟩ := H
  exact ⟨t, rd, x, vf, m, y, L⟩
theorem LawAt.out {G : Cx} {h h1 : List va_E} {F : Lf} {t rd : Nat} {x : Tx} {vf : Nat → Int32} {m y : Nat → Nat} (hf : ∀ k, k = 7 ∨ k = 15 ∨ (t ≤ k ∧ k ≤ t + 6) → h1[k]? = h[k]?) (H : LawAt G h F t rd x vf m y) : LawAt G h1 F t rd x vf m y := by
  obtain ⟨a1, a2, a3, a4, a5, a6, a7⟩ := H
  refine ⟨a1, a2, (hf _ (by omega)).trans a3, (hf _ (by omega)).trans a4, a5, a6, fun hr => ?_⟩
  obtain ⟨⟨q0, q1, q2, q3, q4, q5, q6, ok⟩, b2⟩ := a7 hr
  exact ⟨⟨(hf _ (by omega)).trans q0, (hf _ (by omega)).trans q1, (hf _ (by omega)).trans q2, (hf _ (by omega)).trans q3, (hf _ (by omega)).trans q4, (hf _ (by omega)).trans q5, (hf _ (by omega)).trans q6, ok⟩, b2⟩
theorem TSh.out {G : Cx} {h h1 : List va_E} {t : Nat} {x : Tx} (hf : ∀ k, t ≤ k ∧ k ≤ t + 6 → h1[k]? = h[k]?) (H : TSh G h t x) : TSh G h1 t x := by
  obtain ⟨q0, q1, q2, q3, q4, q5, q6⟩ := H
  exact ⟨(hf _ (by omega)).trans q0, (hf _ (by omega)).trans q1, (hf _ (by omega)).trans q2, (hf _ (by omega)).trans q3, (hf _ (by omega)).trans q4, (hf _ (by omega)).trans q5, (hf _ (by omega)).trans q6⟩
theorem LR.out {G : Cx} {h h1 : List va_E} {F : Lf} {c n : Nat} {b : Nat → Nat} (hf : ∀ k, 7 ≤ k ∧ k ≤ 24 → h1[k]? = h[k]?) (H : LR G h F c b n) : LR G h1 F c b n := by
  obtain ⟨t, t', ht, ⟨rd, x, vf, m, y, L, hc⟩, ⟨p, f, x', o, T⟩, hb, x0, T0⟩ := H
  exact ⟨t, t', ht, ⟨rd, x, vf, m, y, L.out (fun k hk => hf k (by omega)), hc⟩, ⟨p, f, x', (hf _ (by omega)).trans o, T.out (fun k hk => hf k (by omega))⟩, (hf _ (by omega)).trans hb, x0, T0.out (fun k hk => hf k (by omega))⟩
theorem LR.more {G : Cx} {h : List va_E} {F : Lf} {c n : Nat} {b : Nat → Nat} (H : LR G h F c b n) : LR G h F (c + 1) b n := by
  obtain ⟨t, t', ht, ⟨rd, x, vf, m, y, L, hc⟩, R⟩ := H
  exact ⟨t, t', ht, ⟨rd, x, vf, m, y, L, by omega⟩, R⟩
/-- an hour's scratch cells leave law and reader standing -/
theorem LR.hour {G : Cx} {h h1 : List va_E} {F : Lf} {c n : Nat} {b : Nat → Nat} (hf : ∀ k, 7 ≤ k ∧ k ≤ 24 → k ≠ 12 → k ≠ 15 → k ≠ 22 → h1[k]? = h[k]?) (hi : ∀ (k : Nat) (c : ClassId) (n : Nat) (f : Nat → Int32), 7 ≤ k ∧ k ≤ 24 → h[k]? = some (.inl (c, n, .inl f)) → ∃ f', h1[k]? = some (.inl (c, n, .inl f'))) (hL : LawOK G h1 F) (H : LR G h F c b n) : LR G h1 F c b n := by
  obtain ⟨t, t', ht, ⟨rd, x, vf, m, y, L, hc⟩, ⟨p, f, x', o, q0, q1, q2, q3, q4, q5, q6⟩, hb, x0, z0, z1, z2, z3, z4, z5, z6⟩ := H
  obtain ⟨t2, rd2, x2, vf2, m2, y2, L2⟩ := hL
  have e := (hf 7 (by omega) (by omega) (by omega) (by omega)).trans L.2.2.1
  have a1 : t2 = 8 ∨ t2 = 18 := L2.1
  have a2 : rd2 < 100000 := L2.2.1
  have a3 : rd < 100000 := L.2.1
  have e2 := L2.2.2.1.symm.trans e
  simp only [Option.some.injEq, Sum.inr.injEq, Prod.mk.injEq, List.cons.injEq, Value.ref.injEq, Value.int.injEq, and_true, true_and] at e2
  obtain ⟨e3, e4⟩ := e2
  have e3 : t2 = t := Nat.add_left_cancel e3
  have e4 : rd2 = rd := (nI_eq (by omega) (by omega)).mp e4
  subst e3 e4
  obtain ⟨f', hf'⟩ := hi (t' + 4) _ _ _ (by omega) q4
  obtain ⟨f2, hf2⟩ := hi (t2 + 4) _ _ _ (by omega) z4
  exact ⟨t2, t', ht, ⟨rd2, x2, vf2, m2, y2, L2, hc⟩, ⟨p, f, xV x' f', (hf _ (by omega) (by omega) (by omega) (by omega)).trans o, (hf _ (by omega) (by omega) (by omega) (by omega)).trans q0, (hf _ (by omega) (by omega) (by omega) (by omega)).trans q1, (hf _ (by omega) (by omega) (by omega) (by omega)).trans q2, (hf _ (by omega) (by omega) (by omega) (by omega)).trans q3, hf', (hf _ (by omega) (by omega) (by omega) (by omega)).trans q5, (hf _ (by omega) (by omega) (by omega) (by omega)).trans q6⟩, (hf _ (by omega) (by omega) (by omega) (by omega)).trans hb, xV x0 f2, (hf _ (by omega) (by omega) (by omega) (by omega)).trans z0, (hf _ (by omega) (by omega) (by omega) (by omega)).trans z1, (hf _ (by omega) (by omega) (by omega) (by omega)).trans z2, (hf _ (by omega) (by omega) (by omega) (by omega)).trans z3, hf2, (hf _ (by omega) (by omega) (by omega) (by omega)).trans z5, (hf _ (by omega) (by omega) (by omega) (by omega)).trans z6⟩
/-- as RS, with the tape and the length free -/
def RT (G : Cx) (h0 h : List va_E) (t : Nat) (b : Nat → Nat) (n p : Nat) (f : Int32) (x : Tx) : Prop := (t = 8 ∨ t = 18) ∧ h.length = h0.length ∧ (∀ k, k ≠ 16 → k ≠ 17 → h[k]? = h0[k]?) ∧ h[16]? = some (.inr (3, [.ref (gB G + 17), .int (nI n), .int (nI p), .int f, .ref (gB G + t)])) ∧ h[17]? = some (ints G 120 b) ∧ TSh G h t x
theorem RT.ob {G : Cx} {h0 h : List va_E} {t n p : Nat} {b : Nat → Nat} {f : Int32} {x : Tx} (H : RT G h0 h t b n p f x) : h[16]? = some (.inr (3, [.ref (gB G + 17), .int (nI n), .int (nI p), .int f, .ref (gB G + t)])) := H.2.2.2.1
section RTr
variable {G : Cx} {y : MethodName} {cc : ByteArray} {mL : Nat} {rt : Option FieldType} {R : Room} {Z : List Frame → Array Value → State → State → Prop} {cn sn pc : Nat} {ls : List (Option Value)} {st : List Value} {h h0 : List va_E} {t n p : Nat} {b : Nat → Nat} {f : Int32} {x : Tx}
theorem rt_9 (hm : RT G h0 h t b n p f x) (ho : y.cls = RX3) (hd : decode cc pc = .ok (.getfield 9, 3)) (kk : AW G y cc mL rt R Z cn sn (pc + 3) ls (.ref (gB G + 17) :: st) h) : AW G y cc mL rt R Z cn sn pc ls (.ref (gB G + 16) :: st) h :=
  gf_X3_9 ho hd hm.ob kk
theorem rt_22 (hm : RT G h0 h t b n p f x) (ho : y.cls = RX3) (hd : decode cc pc = .ok (.getfield 22, 3)) (kk : AW G y cc mL rt R Z cn sn (pc + 3) ls (.int (nI n) :: st) h) : AW G y cc mL rt R Z cn sn pc ls (.ref (gB G + 16) :: st) h :=
  gf_X3_22 ho hd hm.ob kk
theorem rtp_22 {v : Nat} (hm : RT G h0 h t b n p f x) (ho : y.cls = RX3) (hd : decode cc pc = .ok (.putfield 22, 3)) (kk : ∀ h1, RT G h0 h1 t b v p f x → AW G y cc mL rt R Z cn sn (pc + 3) ls st h1) : AW G y cc mL rt R Z cn sn pc ls (.int (nI v) :: .ref (gB G + 16) :: st) h := by
  refine pf_X3_22 ho hd hm.ob (kk _ ?_)
  obtain ⟨h1, h2, h3, h4, h5, q0, q1, q2, q3, q4, q5, q6⟩ := hm
  exact ⟨h1, by rw [List.length_set]; exact h2, fun k a1 a2 => hs_ne (fun q => a1 q.symm) (h3 k a1 a2), hs_eq h4, hs_ne (by omega) h5, hs_ne (by omega) q0, hs_ne (by omega) q1, hs_ne (by omega) q2, hs_ne (by omega) q3, hs_ne (by omega) q4, hs_ne (by omega) q5, hs_ne (by omega) q6⟩
theorem rts_tape {j v : Nat} (hm : RT G h0 h t b n p f x) (hd : decode cc pc = .ok (.iastore, 1)) (hj : j < 120) (kk : ∀ h1, RT G h0 h1 t (va_up b j v) n p f x → AW G y cc mL rt R Z cn sn (pc + 1) ls st h1) : AW G y cc mL rt R Z cn sn pc ls (.int (nI v) :: .int (nI j) :: .ref (gB G + 17) :: st) h := by
  obtain ⟨h1, h2, h3, h4, h5, q0, q1, q2, q3, q4, q5, q6⟩ := hm
  refine b_iast j hd h5 rfl hj (by decide) ?_
  refine a_h (congrArg (fun e => h.set 17 e) (show _ = (ints G 120 (va_up b j v) : va_E) from ?_)) (kk _ ⟨h1, by rw [List.length_set]; exact h2, fun k a1 a2 => hs_ne (fun q => a2 q.symm) (h3 k a1 a2), hs_ne (by omega) h4, hs_eq h5, hs_ne (by omega) q0, hs_ne (by omega) q1, hs_ne (by omega) q2, hs_ne (by omega) q3, hs_ne (by omega) q4, hs_ne (by omega) q5, hs_ne (by omega) q6⟩)
  exact congrArg (fun g : Nat → Int32 => (show va_E from .inl (gc G 0, 120, .inl g))) (upd_nI _ _ _)
end RTr
set_option maxRecDepth 100000 in
set_option maxHeartbeats 4000000 in
theorem r_add {G : Cx} {d t n p : Nat} {h h0 : List va_E} {b : Nat → Nat} {f : Int32} {x : Tx} {Q : Option Value → List va_E → Prop} (hd : 1 ≤ d) (hz : gz G = false) (hm : RT G h0 h t b n p f x) {v : Nat} (hn : n ≤ 120) (k1 : n < 120 → ∀ h1, RT G h0 h1 t (va_up b n v) (n + 1) p f x → Q (some (.int (nI (n + 1)))) h1) (k2 : ¬ n < 120 → Q (some (.int (-3))) h) : AM G yX3_add cX3_add 2 (some .int) d 0 0 [.ref (gB G + 16), .int (nI (v))] h Q := by
  obtain ⟨d, rfl, he⟩ := dpos hd
  refine AM.of [some (.ref (gB G + 16)), some (.int (nI (v)))] pnX3 (Nat.le_of_ble_eq_true rfl) (by simp [lsub, lvI, Value.category]) ?_
  refine a_aloadn_0 (pc := 0) dX3_add_0 ?_
  refine rt_22 hm rfl dX3_add_1 ?_
  refine a_bipush (pc := 4) (v := nI 120) dX3_add_4 (by decide) ?_
  refine n_icmp_lt (tgt := 12) dX3_add_6 (by decide) (by omega) (by decide) (fun hp => ?_) (fun hp => ?_)
  · refine a_aloadn_0 (pc := 12) dX3_add_12 ?_
    refine rt_9 hm rfl dX3_add_13 ?_
    refine a_aloadn_0 (pc := 16) dX3_add_16 ?_
    refine rt_22 hm rfl dX3_add_17 ?_
    refine a_iloadn_1 (pc := 20) dX3_add_20 ?_
    refine rts_tape (j := n) (v := v) hm dX3_add_21 (by omega) (fun h1 hm1 => ?_)
    refine a_aloadn_0 (pc := 22) dX3_add_22 ?_
    refine a_dup (pc := 23) dX3_add_23 rfl ?_
    refine rt_22 hm1 rfl dX3_add_24 ?_
    refine a_iconst (pc := 27) (v := nI 1) dX3_add_27 (by decide) ?_
    refine n_iadd dX3_add_28 ?_
    refine rtp_22 (v := n + 1) hm1 rfl dX3_add_29 (fun h2 hm2 => ?_)
    refine a_aloadn_0 (pc := 32) dX3_add_32 ?_
    refine rt_22 hm2 rfl dX3_add_33 ?_
    exact a_iret (pc := 36) dX3_add_36 rfl (zf hz) (k1 hp _ hm2)
  · refine a_bipush (pc := 9) (v := (-3)) dX3_add_9 (by decide) ?_
    exact a_iret (pc := 11) dX3_add_11 rfl (zf hz) (k2 (Nat.not_lt.mpr hp))
set_option maxRecDepth 100000 in
set_option maxHeartbeats 4000000 in
theorem r_empty {G : Cx} {d t n p : Nat} {h h0 : List va_E} {b : Nat → Nat} {f : Int32} {x : Tx} {Q : Option Value → List va_E → Prop} (hd : 1 ≤ d) (hz : gz G = false) (hm : RT G h0 h t b n p f x) (k : ∀ h1, RT G h0 h1 t b 0 p f x → Q none h1) : AM G yX3_empty cX3_empty 1 none d 0 0 [.ref (gB G + 16)] h Q := by
  obtain ⟨d, rfl, he⟩ := dpos hd
  refine AM.of [some (.ref (gB G + 16))] pnX3 (Nat.le_of_ble_eq_true rfl) (by simp [lsub, lvI, Value.category]) ?_
  refine a_aloadn_0 (pc := 0) dX3_empty_0 ?_
  refine a_iconst (pc := 1) (v := nI 0) dX3_empty_1 (by decide) ?_
  refine rtp_22 (v := 0) hm rfl dX3_empty_2 (fun h1 hm1 => ?_)
  exact a_vret (pc := 5) dX3_empty_5 rfl (zf hz) (k _ hm1)
theorem l_add {G : Cx} {d c n : Nat} {h : List va_E} {F : Lf} {b : Nat → Nat} {Q : Option Value → List va_E → Prop} (hd : 1 ≤ d) (hz : gz G = false) (hm : LR G h F c b n) {v : Nat} (hn : n ≤ 120) (k1 : n < 120 → ∀ h1, h1.length = h.length → (∀ k, k ≠ 16 → k ≠ 17 → h1[k]? = h[k]?) → LR G h1 F c (va_up b n v) (n + 1) → Q (some (.int (nI (n + 1)))) h1) (k2 : ¬ n < 120 → Q (some (.int (-3))) h) : AM G yX3_add cX3_add 2 (some .int) d 0 0 [.ref (gB G + 16), .int (nI v)] h Q := by
  obtain ⟨t, t', ht, ⟨rd, x, vf, m, y, L, hc⟩, ⟨p, f, x', o, T⟩, hb, x0, T0⟩ := hm
  have hm : RT G h h t' b n p f x' := ⟨by omega, rfl, fun _ _ _ => rfl, o, hb, T⟩
  exact r_add hd hz hm hn (fun h9 h1 g => k1 h9 h1 g.2.1 g.2.2.1 ⟨t, t', ht, ⟨rd, x, vf, m, y, L.out (fun k hk => g.2.2.1 k (by omega) (by omega)), hc⟩, ⟨p, f, x', g.2.2.2.1, g.2.2.2.2.2⟩, g.2.2.2.2.1, x0, T0.out (fun k hk => g.2.2.1 k (by omega) (by omega))⟩) k2
theorem l_empty {G : Cx} {d c n : Nat} {h : List va_E} {F : Lf} {b : Nat → Nat} {Q : Option Value → List va_E → Prop} (hd : 1 ≤ d) (hz : gz G = false) (hm : LR G h F c b n) (k : ∀ h1, h1.length = h.length → (∀ k, k ≠ 16 → k ≠ 17 → h1[k]? = h[k]?) → LR G h1 F c b 0 → Q none h1) : AM G yX3_empty cX3_empty 1 none d 0 0 [.ref (gB G + 16)] h Q := by
  obtain ⟨t, t', ht, ⟨rd, x, vf, m, y, L, hc⟩, ⟨p, f, x', o, T⟩, hb, x0, T0⟩ := hm
  have hm : RT G h h t' b n p f x' := ⟨by omega, rfl, fun _ _ _ => rfl, o, hb, T⟩
  exact r_empty hd hz hm (fun h1 g => k h1 g.2.1 g.2.2.1 ⟨t, t', ht, ⟨rd, x, vf, m, y, L.out (fun k hk => g.2.2.1 k (by omega) (by omega)), hc⟩, ⟨p, f, x', g.2.2.2.1, g.2.2.2.2.2⟩, g.2.2.2.2.1, x0, T0.out (fun k hk => g.2.2.1 k (by omega) (by omega))⟩)
theorem pnX2' : plainName RX2 = true := by decide
theorem l_become {G : Cx} {d c n p : Nat} {h : List va_E} {F : Lf} {b : Nat → Nat} {Q : Option Value → List va_E → Prop} {t t' rd : Nat} {x x1 : Tx} {vf : Nat → Int32} {m y : Nat → Nat} {f : Int32} {A : An} {D : Nat → Ex} (hd : 1 ≤ d) (hz : gz G = false) (ht : (t = 8 ∧ t' = 18) ∨ (t = 18 ∧ t' = 8)) (L : LawAt G h F t rd x vf m y) (hc : rd ≤ c) (hc9 : c + 1 < 100000) (ho : h[16]? = some (.inr (3, [.ref (gB G + 17), .int (nI n), .int (nI p), .int f, .ref (gB G + t')]))) (T : TSh G h t' x1) (hb : h[17]? = some (ints G 120 b)) {x0 : Tx} (T0 : TSh G h t x0) (H : TD x1 D) (HLn : TLn x1 D A) (hP : tP x1 ≤ 126) (hN6 : tN x1 ≤ 61) (k : ∀ h1, h1.length = h.length → (∀ k, k ≠ 7 → k ≠ 16 → h1[k]? = h[k]?) → LR G h1 (lawF A) (c + 1) b n → Q none h1) : AM G yX2_become cX2_become 3 none d 0 0 [.ref (gB G + 7), .ref (gB G + 16)] h Q := by
  obtain ⟨d, rfl, he⟩ := dpos hd
  refine AM.of [some (.ref (gB G + 7)), some (.ref (gB G + 16)), none] pnX2' (Nat.le_of_ble_eq_true rfl) (by simp [lsub, lvI, Value.category]) ?_
  obtain ⟨hok, hev⟩ := text_means H HLn hP hN6
  obtain ⟨a1, a2, a3, a4, a5, a6, a7⟩ := L
  refine a_aloadn_0 (pc := 0) dX2_become_0 ?_
  refine gf_X2_10 (pc := 1) rfl dX2_become_1 (a3) ?_
  refine a_astoren_2 (pc := 4) dX2_become_4 (by decide) (by first | rfl | trivial) ?_
  refine a_aloadn_0 (pc := 5) dX2_become_5 ?_
  refine a_aloadn_1 (pc := 6) dX2_become_6 ?_
  refine gf_X2_20 (pc := 7) rfl dX2_become_7 (ho) ?_
  refine pf_X2_10 (pc := 10) rfl dX2_become_10 (a3) ?_
  refine a_aloadn_1 (pc := 13) dX2_become_13 ?_
  refine a_aloadn_2 (pc := 14) dX2_become_14 ?_
  refine pf_X2_20 (pc := 15) rfl dX2_become_15 (hs_ne (by omega) (ho)) ?_
  refine a_aloadn_0 (pc := 18) dX2_become_18 ?_
  refine a_dup (pc := 19) dX2_become_19 rfl ?_
  refine gf_X2_23 (pc := 20) rfl dX2_become_20 (hs_ne (by omega) (hs_eq (a3))) ?_
  refine a_iconst (pc := 23) (v := nI 1) dX2_become_23 (by decide) ?_
  refine n_iadd dX2_become_24 ?_
  refine pf_X2_23 (pc := 25) rfl dX2_become_25 (hs_ne (by omega) (hs_eq (a3))) ?_
  refine a_vret (pc := 28) dX2_become_28 rfl (zf hz) (k _ (by simp only [List.length_set]) (fun j j1 j2 => ?_) ?_)
  
  · exact hs_ne (fun q => j1 q.symm) (hs_ne (fun q => j2 q.symm) (hs_ne (fun q => j1 q.symm) rfl))
  · have F0 : ∀ (e1 e2 e3 : va_E) (j : Nat), j ≠ 7 → j ≠ 16 → (((h.set 7 e1).set 16 e2).set 7 e3)[j]? = h[j]? := fun e1 e2 e3 j j1 j2 => hs_ne (fun q => j1 q.symm) (hs_ne (fun q => j2 q.symm) (hs_ne (fun q => j1 q.symm) rfl))
    refine ⟨t', t, by omega, ⟨rd + 1, x1, tV x1, m, y, ⟨by omega, by omega, hs_eq (hs_ne (by omega) (hs_eq a3)), (F0 _ _ _ _ (by omega) (by omega)).trans a4, fun q => ⟨by have := (a5 q).1; omega, (a5 q).2⟩, fun q => absurd q (by omega), fun _ => ⟨?_, fun d l g c w hh => ?_, fun d l g c hh b1 b2 b3 b4 b5 b6 => absurd b6 (by have := (a5 (plc d l g c hh)).1; omega)⟩⟩, by omega⟩, ⟨p, f, x0, hs_ne (by omega) (hs_eq (hs_ne (by omega) ho)), T0.out (fun k hk => F0 _ _ _ k (by omega) (by omega))⟩, (F0 _ _ _ _ (by omega) (by omega)).trans hb, x1, T.out (fun k hk => F0 _ _ _ k (by omega) (by omega))⟩
    · obtain ⟨q0, q1, q2, q3, q4, q5, q6⟩ := T.out (fun k hk => F0 _ _ _ k (by omega) (by omega))
      exact ⟨q0, q1, q2, q3, q4, q5, q6, hok, fun _ _ _ _ => rfl⟩
    · show hN ((A (nmV6 d l g c w hh)).getD 0) = hN _
      rw [hev (nI d) (nI l) (nI g) (nI c) (nI w) (nI hh) (nmV6 d l g c w hh) ⟨rfl, rfl, rfl, rfl, rfl, rfl⟩]

