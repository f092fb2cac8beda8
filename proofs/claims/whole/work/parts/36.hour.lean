/-! ONE CITY and the law: CY; the hour -/
def CY (G : Cx) (h0 h : List va_E) (a : Nat) (v : Cv) (F : Lf) : Prop := (a + 2 < 7 ∨ 24 < a) ∧ HX a h0 h ∧ cityAt G h a v ∧ LawOK G h F
section CYs
variable {G : Cx} {h0 h : List va_E} {a : Nat} {v : Cv} {F : Lf}
theorem CY.ob (H : CY G h0 h a v F) : h[a]? = some (cObj G a v) := H.2.2.1.1
theorem CY.q1 (H : CY G h0 h a v F) : h[a + 1]? = some (ints G 36 (cW v)) := H.2.2.1.2.1
theorem CY.q2 (H : CY G h0 h a v F) : h[a + 2]? = some (ints G 36 (cG v)) := H.2.2.1.2.2.1
theorem CY.ok (H : CY G h0 h a v F) : okC v := H.2.2.1.2.2.2
theorem CY.lw (H : CY G h0 h a v F) : h[7]? = some (.inr (2, [.ref (gB G + H.2.2.2.choose), .ref (gB G + 15), .int (nI H.2.2.2.choose_spec.choose)])) := H.2.2.2.choose_spec.choose_spec.choose_spec.choose_spec.choose_spec.choose_spec.2.2.1
theorem CY.put {v' : Cv} (H : CY G h0 h a v F) (ok : okC v') : CY G h0 (putC G h a v') a v' F :=
  ⟨H.1, H.2.1.trans HX.put, putC_at H.2.2.1 ok, LawOK_put H.1 H.2.2.2⟩
theorem CY.law {h1 : List va_E} (H : CY G h0 h a v F) (p : HL h h1) (L : LawOK G h1 F) : CY G h0 h1 a v F :=
  ⟨H.1, H.2.1.trans (HX.ofL p), cityL H.1 H.2.2.1 p, L⟩
theorem CY.hx {h1 : List va_E} {v' : Cv} (H : CY G h0 h a v F) (p : HX a h h1) (c : cityAt G h1 a v') (L : LawOK G h1 F) : CY G h0 h1 a v' F :=
  ⟨H.1, H.2.1.trans p, c, L⟩
theorem LawOK.le (H : LawOK G h F) (d l g c w hh : Nat) : F d l g c w hh ≤ 9 := by
  obtain ⟨t, rd, x, vf, m, y, a1, a2, a3, a4, a5, a6, a7⟩ := H
  by_cases hr : rd = 0
  · rw [a6 hr]; exact hN_le _
  · rw [(a7 hr).2.1]; exact hN_le _
end CYs
abbrev cfell (v : Cv) (x : Nat → Bool) : Cv := (cW v, cG v, cK v, cC v, (cH v, cB v, cT v), x, cO v, cU v)
abbrev cgotBack (v : Cv) (x : Nat → Bool) : Cv := (cW v, cG v, cK v, cC v, (cH v, cB v, cT v), cF v, x, cU v)
abbrev cburnt (v : Cv) (x : Nat) : Cv := (cW v, cG v, cK v, cC v, (cH v, cB v, cT v), cF v, cO v, x)
abbrev cdark (v : Cv) (x : Nat → Bool) : Cv := (cW v, cG v, x, cC v, (cH v, cB v, cT v), cF v, cO v, cU v)
abbrev ctime (v : Cv) (x : Nat) : Cv := (cW v, cG v, cK v, cC v, (cH v, cB v, x), cF v, cO v, cU v)
section CYr
variable {G : Cx} {y : MethodName} {cc : ByteArray} {mL : Nat} {rt : Option FieldType} {R : Room} {Z : List Frame → Array Value → State → State → Prop} {cn sn pc : Nat} {ls : List (Option Value)} {st : List Value} {h h0 : List va_E} {a : Nat} {v : Cv} {F : Lf}
theorem cyp_fell {x : Nat → Bool} (hk : CY G h0 h a v F) (ho : y.cls = RX0) (hd : decode cc pc = .ok (.putfield 87, 3)) (kk : ∀ h1, CY G h0 h1 a (cfell v x) F → AW G y cc mL rt R Z cn sn (pc + 3) ls st h1) : AW G y cc mL rt R Z cn sn pc ls (.long (bL x) :: .ref (gB G + a) :: st) h :=
  pf_X0_87 ho hd hk.ob (a_h (putC_o (v' := cfell v x) hk.2.2.1 rfl rfl) (kk _ (hk.put (v' := cfell v x) hk.ok)))
theorem cyp_gotBack {x : Nat → Bool} (hk : CY G h0 h a v F) (ho : y.cls = RX0) (hd : decode cc pc = .ok (.putfield 90, 3)) (kk : ∀ h1, CY G h0 h1 a (cgotBack v x) F → AW G y cc mL rt R Z cn sn (pc + 3) ls st h1) : AW G y cc mL rt R Z cn sn pc ls (.long (bL x) :: .ref (gB G + a) :: st) h :=
  pf_X0_90 ho hd hk.ob (a_h (putC_o (v' := cgotBack v x) hk.2.2.1 rfl rfl) (kk _ (hk.put (v' := cgotBack v x) hk.ok)))
theorem cyp_burnt {x : Nat} (hk : CY G h0 h a v F) (hb : x ≤ 10000) (ho : y.cls = RX0) (hd : decode cc pc = .ok (.putfield 93, 3)) (kk : ∀ h1, CY G h0 h1 a (cburnt v x) F → AW G y cc mL rt R Z cn sn (pc + 3) ls st h1) : AW G y cc mL rt R Z cn sn pc ls (.int (nI x) :: .ref (gB G + a) :: st) h :=
  pf_X0_93 ho hd hk.ob (a_h (putC_o (v' := cburnt v x) hk.2.2.1 rfl rfl) (kk _ (hk.put (v' := cburnt v x) ⟨hk.ok.1, hk.ok.2.1, hk.ok.2.2.1, hk.ok.2.2.2.1, hk.ok.2.2.2.2.1, hk.ok.2.2.2.2.2.1, hb⟩)))
theorem cyp_dark {x : Nat → Bool} (hk : CY G h0 h a v F) (ho : y.cls = RX0) (hd : decode cc pc = .ok (.putfield 42, 3)) (kk : ∀ h1, CY G h0 h1 a (cdark v x) F → AW G y cc mL rt R Z cn sn (pc + 3) ls st h1) : AW G y cc mL rt R Z cn sn pc ls (.long (bL x) :: .ref (gB G + a) :: st) h :=
  pf_X0_42 ho hd hk.ob (a_h (putC_o (v' := cdark v x) hk.2.2.1 rfl rfl) (kk _ (hk.put (v' := cdark v x) hk.ok)))
theorem cyp_time {x : Nat} (hk : CY G h0 h a v F) (hb : x ≤ 11) (ho : y.cls = RX0) (hd : decode cc pc = .ok (.putfield 45, 3)) (kk : ∀ h1, CY G h0 h1 a (ctime v x) F → AW G y cc mL rt R Z cn sn (pc + 3) ls st h1) : AW G y cc mL rt R Z cn sn pc ls (.int (nI x) :: .ref (gB G + a) :: st) h :=
  pf_X0_45 ho hd hk.ob (a_h (putC_o (v' := ctime v x) hk.2.2.1 rfl rfl) (kk _ (hk.put (v' := ctime v x) ⟨hk.ok.1, hk.ok.2.1, hk.ok.2.2.1, hk.ok.2.2.2.1, hk.ok.2.2.2.2.1, hb, hk.ok.2.2.2.2.2.2⟩)))
end CYr
theorem y_setWax {G : Cx} {d a r x : Nat} {h h0 : List va_E} {v : Cv} {F : Lf} {Q : Option Value → List va_E → Prop} (hd : 2 ≤ d) (hz : gz G = false) (hk : CY G h0 h a v F) (hr : r < 36) (hx : x ≤ 99) (k : ∀ h1, CY G h0 h1 a (csW v r x) F → Q none h1) : AM G yX0_setWax cX0_setWax 3 none d 0 0 [.ref (gB G + a), .int (nI r), .int (nI x)] h Q :=
  x_setWax hd hz hk.2.2.1 hr hx (k _ (hk.put (okC_W hk.ok hr hx)))
theorem y_pressOn {G : Cx} {d a r : Nat} {h h0 : List va_E} {v : Cv} {F : Lf} {Q : Option Value → List va_E → Prop} (hd : 4 ≤ d) (hz : gz G = false) (hk : CY G h0 h a v F) (hr : r < 36) (k : ∀ h1, CY G h0 h1 a v F → Q (some (.int (nI (prs F v r)))) h1) : AM G yX0_pressOn cX0_pressOn 6 (some .int) d 0 0 [.ref (gB G + a), .int (nI r), .ref (gB G + 7)] h Q :=
  x_pressOn hd hz hk.2.2.1 hk.1 hr hk.2.2.2 (fun h1 p L => k h1 (hk.law p L))
theorem bit_at {f : Nat → Bool} {r : Nat} (hr : r < 36) : lg_cmp (bL (fun i => f i && decide (i = r))) 0 = 0 ↔ f r = false := by
  rw [lg_cmp0, bL_eq0]
  constructor
  · intro q; have := q r hr; simpa using this
  · intro q i _; by_cases e : i = r
    · subst e; simp [q]
    · simp [e]
theorem stp (p : Nat → Bool) (r : Nat) : (fun i => decide (i < r + 1) && p i) = if p r = true then (fun i => (decide (i < r) && p i) || decide (i = r)) else (fun i => decide (i < r) && p i) := by
  funext i
  by_cases e : i = r
  · subst e
    cases hp : p i <;> simp [hp]
  · have e2 : decide (i < r + 1) = decide (i < r) := by
      rw [decide_eq_decide]; omega
    cases hp : p r <;> simp [e, e2]
/-- the hour, room by room -/
def hgot (v : Cv) (r : Nat) : Bool := cK v r && decide (cB v ≤ lB (clit v) r)
def hfell (F : Lf) (v : Cv) (r : Nat) : Bool := !cK v r && (!clit v r && decide (cH v ≤ prs F v r))
abbrev hloop (F : Lf) (v : Cv) (r : Nat) : Cv := (cW v, cG v, cK v, cC v, (cH v, cB v, cT v), (fun i => decide (i < r) && hfell F v i), (fun i => decide (i < r) && hgot v i), 0)
theorem hloop_s (F : Lf) (v : Cv) (r : Nat) : hloop F v (r + 1) = (cW v, cG v, cK v, cC v, (cH v, cB v, cT v), (if hfell F v r = true then (fun i => (decide (i < r) && hfell F v i) || decide (i = r)) else (fun i => decide (i < r) && hfell F v i)), (if hgot v r = true then (fun i => (decide (i < r) && hgot v i) || decide (i = r)) else (fun i => decide (i < r) && hgot v i)), 0) := by
  rw [← stp, ← stp]
def hless (v : Cv) (r : Nat) : Nat := min (cW v r) (1 + cG v r / 5)
def bsum (v : Cv) (f : Nat → Bool) : Nat → Nat
  | 0 => 0
  | i + 1 => bsum v f i + (if f i = true then hless v i else 0)
abbrev cburn (v : Cv) (f : Nat → Bool) (i : Nat) : Cv := ((fun r => if r < i ∧ f r = true then cW v r - hless v r else cW v r), cG v, cK v, cC v, (cH v, cB v, cT v), cF v, cO v, cU v + bsum v f i)
theorem bsum_le (v : Cv) (f : Nat → Bool) (hv : okC v) : ∀ i, bsum v f i ≤ 2 * i
  | 0 => Nat.le_refl _
  | i + 1 => by
    have h1 := bsum_le v f hv i
    have h2 := hv.2.1 i
    rw [bsum]
    unfold hless
    split <;> omega
theorem cburn_1 {v : Cv} {f : Nat → Bool} {i : Nat} (e : f i = true) : cburnt (csW (cburn v f i) i (cW v i - hless v i)) (cU v + bsum v f i + hless v i) = cburn v f (i + 1) := by
  have h1 : va_up (fun r => if r < i ∧ f r = true then cW v r - hless v r else cW v r) i (cW v i - hless v i) = fun r => if r < i + 1 ∧ f r = true then cW v r - hless v r else cW v r := by
    funext r
    unfold va_up
    by_cases q : r = i
    · subst q; simp [e]
    · rw [if_neg q]
      by_cases q2 : r < i
      · simp [q2, show r < i + 1 by omega]
      · simp [q2, show ¬ r < i + 1 by omega]
  have h2 : cU v + bsum v f i + hless v i = cU v + bsum v f (i + 1) := by rw [bsum, if_pos e]; omega
  show (va_up _ i _, (cG v, cK v, cC v, (cH v, cB v, cT v), cF v, cO v, cU v + bsum v f i + hless v i)) = (_, (cG v, cK v, cC v, (cH v, cB v, cT v), cF v, cO v, cU v + bsum v f (i + 1)))
  rw [h1, h2]
theorem cburn_0 {v : Cv} {f : Nat → Bool} {i : Nat} (e : f i = false) : cburn v f i = cburn v f (i + 1) := by
  have h1 : (fun r => if r < i ∧ f r = true then cW v r - hless v r else cW v r) = fun r => if r < i + 1 ∧ f r = true then cW v r - hless v r else cW v r := by
    funext r
    by_cases q : r = i
    · subst q; simp [e]
    · by_cases q2 : r < i
      · simp [q2, show r < i + 1 by omega]
      · rw [if_neg (fun z => q2 z.1), if_neg (fun z => by omega)]
  have h2 : bsum v f (i + 1) = bsum v f i := by rw [bsum, e]; simp
  show (_, (cG v, cK v, cC v, (cH v, cB v, cT v), cF v, cO v, cU v + bsum v f i)) = (_, (cG v, cK v, cC v, (cH v, cB v, cT v), cF v, cO v, cU v + bsum v f (i + 1)))
  rw [h1, h2]
theorem cburn_at {v : Cv} {f : Nat → Bool} {i : Nat} : cW (cburn v f i) i = cW v i := by
  show (if i < i ∧ f i = true then cW v i - hless v i else cW v i) = cW v i
  rw [if_neg (fun q => absurd q.1 (Nat.lt_irrefl i))]
theorem cburn_z {v : Cv} {f : Nat → Bool} : ∀ i, (∀ r, r < i → f r = false) → cburn v f i = v
  | 0, _ => by
    show (_, _) = v
    refine Prod.ext (funext fun r => ?_) rfl
    show (if r < 0 ∧ f r = true then cW v r - hless v r else cW v r) = cW v r
    rw [if_neg (fun q => absurd q.1 (Nat.not_lt_zero r))]
  | i + 1, h => by rw [← cburn_0 (h i (by omega))]; exact cburn_z i (fun r q => h r (by omega))
set_option maxRecDepth 100000 in
set_option maxHeartbeats 4000000 in
theorem y_putOut {G : Cx} {d a : Nat} {h h0 : List va_E} {v : Cv} {F : Lf} {Q : Option Value → List va_E → Prop} (hd : 3 ≤ d) (hz : gz G = false) (hk : CY G h0 h a v F) {f : Nat → Bool} (k : ∀ h1, CY G h0 h1 a (cout v f 36) F → Q none h1) : AM G yX0_putOut cX0_putOut 4 none d 0 0 [.ref (gB G + a), .long (bL (f))] h Q := by
  obtain ⟨d, rfl, he⟩ := dpos hd
  have lp : ∀ (n : Nat) (i : Nat) (h1 : List va_E), 36 - i < n → i ≤ 36 → CY G h0 h1 a (cout v f i) F → AW G yX0_putOut cX0_putOut 4 none (rmx (d + 1) 0 0) (ZQ G 0 0 (h.length + 0) Q) 0 0 9 [some (.ref (gB G + a)), some (.long (bL (f))), none, some (.int (nI (i)))] [] h1 := by
    intro n
    induction n with
    | zero => intro i h1 hn; exact absurd hn (Nat.not_lt_zero _)
    | succ n ih =>
      intro i h1 hn hi36 hk1
      refine a_iloadn_3 (pc := 9) dX0_putOut_9 ?_
      refine a_bipush (pc := 10) (v := nI 36) dX0_putOut_10 (by decide) ?_
      refine n_icmp_ge (tgt := 37) dX0_putOut_12 (by decide) (by omega) (by decide) (fun c_12 => ?_) (fun c_12 => ?_)
      · exact a_vret (pc := 37) dX0_putOut_37 rfl (zf hz) (k _ (by rw [show i = 36 by omega] at hk1; exact hk1))
      · refine a_lloadn_1 (pc := 15) dX0_putOut_15 ?_
        refine a_iloadn_3 (pc := 16) dX0_putOut_16 ?_
        refine a_lushr (pc := 17) dX0_putOut_17 ?_
        refine a_lconst (pc := 18) (v := 1) dX0_putOut_18 (by decide) ?_
        refine a_land (pc := 19) dX0_putOut_19 ?_
        refine a_lconst (pc := 20) (v := 0) dX0_putOut_20 (by decide) ?_
        refine a_lcmp (pc := 21) dX0_putOut_21 ?_
        refine a_if_eq (pc := 22) (tgt := 31) dX0_putOut_22 (by decide) (fun c_22 => ?_) (fun c_22 => ?_)
        · rw [lushr_bit _ (by omega)] at c_22
          rw [cout_s0 c_22] at hk1
          refine a_iinc_3 (pc := 31) (v := nI (i + 1)) dX0_putOut_31 (nI_add _ _) (by decide) (by first | rfl | trivial) ?_
          refine a_goto (pc := 34) (tgt := 9) dX0_putOut_34 (by decide) ?_
          exact ih (i + 1) _ (by omega) (by omega) (by assumption)
        · rw [lushr_bit _ (by omega), Bool.not_eq_false] at c_22
          refine a_aloadn_0 (pc := 25) dX0_putOut_25 ?_
          refine a_iloadn_3 (pc := 26) dX0_putOut_26 ?_
          refine a_iconst (pc := 27) (v := nI 0) dX0_putOut_27 (by decide) ?_
          refine cv_X0_70 (pc := 28) rfl dX0_putOut_28 hk1.ob (Nat.le_of_ble_eq_true rfl) ?_
          refine y_setWax (by omega) hz hk1 (by omega) (by omega) (fun h2 hk2 => ?_)
          rw [cout_s1 c_22] at hk2
          refine a_iinc_3 (pc := 31) (v := nI (i + 1)) dX0_putOut_31 (nI_add _ _) (by decide) (by first | rfl | trivial) ?_
          refine a_goto (pc := 34) (tgt := 9) dX0_putOut_34 (by decide) ?_
          exact ih (i + 1) _ (by omega) (by omega) (by assumption)
  refine AM.of [some (.ref (gB G + a)), some (.long (bL (f))), none, none] pnX0 (Nat.le_of_ble_eq_true rfl) (by simp [lsub, lvI, Value.category]) ?_
  refine a_lloadn_1 (pc := 0) dX0_putOut_0 ?_
  refine a_lconst (pc := 1) (v := 0) dX0_putOut_1 (by decide) ?_
  refine a_lcmp (pc := 2) dX0_putOut_2 ?_
  refine a_if_ne (pc := 3) (tgt := 7) dX0_putOut_3 (by decide) (fun c_3 => ?_) (fun c_3 => ?_)
  · refine a_iconst (pc := 7) (v := nI 0) dX0_putOut_7 (by decide) ?_
    refine a_istoren_3 (pc := 8) dX0_putOut_8 (by decide) (by first | rfl | trivial) ?_
    exact lp 37 0 h (by omega) (by omega) (by rw [cout_0 (fun r q => absurd q (Nat.not_lt_zero r))]; exact hk)
  · rw [bit_0] at c_3
    exact a_vret (pc := 6) dX0_putOut_6 rfl (zf hz) (k h (by rw [cout_0 c_3]; exact hk))
set_option maxRecDepth 100000 in
set_option maxHeartbeats 4000000 in
theorem y_burn {G : Cx} {d a : Nat} {h h0 : List va_E} {v : Cv} {F : Lf} {Q : Option Value → List va_E → Prop} (hd : 3 ≤ d) (hz : gz G = false) (hk : CY G h0 h a v F) {f : Nat → Bool} (hu : cU v = 0) (k : ∀ h1, CY G h0 h1 a (cburn v f 36) F → Q none h1) : AM G yX0_burn cX0_burn 5 none d 0 0 [.ref (gB G + a), .long (bL (f))] h Q := by
  obtain ⟨d, rfl, he⟩ := dpos hd
  have okv := hk.ok
  have lp : ∀ (n : Nat) (i : Nat) (h1 : List va_E), 36 - i < n → i ≤ 36 → CY G h0 h1 a (cburn v f i) F → AW G yX0_burn cX0_burn 5 none (rmx (d + 1) 0 0) (ZQ G 0 0 (h.length + 0) Q) 0 0 9 [some (.ref (gB G + a)), some (.long (bL (f))), none, some (.int (nI (i))), none] [] h1 := by
    intro n
    induction n with
    | zero => intro i h1 hn; exact absurd hn (Nat.not_lt_zero _)
    | succ n ih =>
      intro i h1 hn hi36 hk1
      refine a_iloadn_3 (pc := 9) dX0_burn_9 ?_
      refine a_bipush (pc := 10) (v := nI 36) dX0_burn_10 (by decide) ?_
      refine n_icmp_ge (tgt := 77) dX0_burn_12 (by decide) (by omega) (by decide) (fun hi => ?_) (fun hi => ?_)
      · exact a_vret (pc := 77) dX0_burn_77 rfl (zf hz) (k _ (by rw [show i = 36 by omega] at hk1; exact hk1))
      · refine a_lloadn_1 (pc := 15) dX0_burn_15 ?_
        refine a_iloadn_3 (pc := 16) dX0_burn_16 ?_
        refine a_lushr (pc := 17) dX0_burn_17 ?_
        refine a_lconst (pc := 18) (v := 1) dX0_burn_18 (by decide) ?_
        refine a_land (pc := 19) dX0_burn_19 ?_
        refine a_lconst (pc := 20) (v := 0) dX0_burn_20 (by decide) ?_
        refine a_lcmp (pc := 21) dX0_burn_21 ?_
        refine a_if_eq (pc := 22) (tgt := 71) dX0_burn_22 (by decide) (fun c_22 => ?_) (fun c_22 => ?_)
        · rw [lushr_bit _ (by omega)] at c_22
          rw [cburn_0 c_22] at hk1
          refine a_iinc_3 (pc := 71) (v := nI (i + 1)) dX0_burn_71 (nI_add _ _) (by decide) (by first | rfl | trivial) ?_
          refine a_goto (pc := 74) (tgt := 9) dX0_burn_74 (by decide) ?_
          exact ih (i + 1) _ (by omega) (by omega) (by assumption)
        · rw [lushr_bit _ (by omega), Bool.not_eq_false] at c_22
          have b1 := okv.1 i
          have b2 := okv.2.1 i
          refine a_aloadn_0 (pc := 25) dX0_burn_25 ?_
          refine gf_X0_9 (pc := 26) rfl dX0_burn_26 hk1.ob ?_
          refine a_iloadn_3 (pc := 29) dX0_burn_29 ?_
          refine b_iald (pc := 30) i dX0_burn_30 hk1.q1 rfl (by omega) (by decide) ?_
          refine a_topi (nI (cW v i)) (congrArg nI cburn_at) ?_
          refine a_iconst (pc := 31) (v := nI 1) dX0_burn_31 (by decide) ?_
          refine a_aloadn_0 (pc := 32) dX0_burn_32 ?_
          refine gf_X0_15 (pc := 33) rfl dX0_burn_33 hk1.ob ?_
          refine a_iloadn_3 (pc := 36) dX0_burn_36 ?_
          refine b_iald (pc := 37) i dX0_burn_37 hk1.q2 rfl (by omega) (by decide) ?_
          refine a_topi (nI (cG v i)) rfl ?_
          refine a_iconst (pc := 38) (v := nI 5) dX0_burn_38 (by decide) ?_
          refine n_idiv dX0_burn_39 (by omega) (by decide) (by decide) ?_
          refine n_iadd dX0_burn_40 ?_
          refine a_mminR (pc := 41) dX0_burn_41 w_602 (Nat.le_of_ble_eq_true rfl) ?_
          refine a_topi (nI (min (cW v i) (1 + ((cG v i) / 5)))) (mmin_nI (by omega) (by omega)) ?_
          refine a_topi (nI (hless v i)) rfl ?_
          refine a_istore_4 (pc := 44) dX0_burn_44 (by decide) (by first | rfl | trivial) ?_
          refine a_aloadn_0 (pc := 46) dX0_burn_46 ?_
          refine a_iloadn_3 (pc := 47) dX0_burn_47 ?_
          refine a_aloadn_0 (pc := 48) dX0_burn_48 ?_
          refine gf_X0_9 (pc := 49) rfl dX0_burn_49 hk1.ob ?_
          refine a_iloadn_3 (pc := 52) dX0_burn_52 ?_
          refine b_iald (pc := 53) i dX0_burn_53 hk1.q1 rfl (by omega) (by decide) ?_
          refine a_topi (nI (cW v i)) (congrArg nI cburn_at) ?_
          refine a_iload_4 (pc := 54) dX0_burn_54 ?_
          refine n_isub dX0_burn_56 (by unfold hless; omega) ?_
          refine cv_X0_70 (pc := 57) rfl dX0_burn_57 hk1.ob (Nat.le_of_ble_eq_true rfl) ?_
          refine y_setWax (by omega) hz hk1 (by omega) (by omega) (fun h2 hk2 => ?_)
          refine a_aloadn_0 (pc := 60) dX0_burn_60 ?_
          refine a_dup (pc := 61) dX0_burn_61 rfl ?_
          refine gf_X0_93 (pc := 62) rfl dX0_burn_62 hk2.ob ?_
          refine a_iload_4 (pc := 65) dX0_burn_65 ?_
          have b3 := bsum_le v f okv i
          have b4 : hless v i ≤ 2 := by unfold hless; omega
          refine n_iadd dX0_burn_67 ?_
          refine a_topi (nI (cU v + bsum v f i + hless v i)) rfl ?_
          refine cyp_burnt (x := cU v + bsum v f i + hless v i) hk2 (by omega) rfl dX0_burn_68 (fun h3 hk3 => ?_)
          rw [cburn_1 c_22] at hk3
          refine a_iinc_3 (pc := 71) (v := nI (i + 1)) dX0_burn_71 (nI_add _ _) (by decide) (by first | rfl | trivial) ?_
          refine a_goto (pc := 74) (tgt := 9) dX0_burn_74 (by decide) ?_
          refine a_ls (ls' := [some _, some _, none, some _, none, none]) ⟨rfl, rfl, rfl, trivial⟩ ?_
          exact ih (i + 1) _ (by omega) (by omega) (by assumption)
  refine AM.of [some (.ref (gB G + a)), some (.long (bL (f))), none, none, none] pnX0 (Nat.le_of_ble_eq_true rfl) (by simp [lsub, lvI, Value.category]) ?_
  refine a_lloadn_1 (pc := 0) dX0_burn_0 ?_
  refine a_lconst (pc := 1) (v := 0) dX0_burn_1 (by decide) ?_
  refine a_lcmp (pc := 2) dX0_burn_2 ?_
  refine a_if_ne (pc := 3) (tgt := 7) dX0_burn_3 (by decide) (fun c_3 => ?_) (fun c_3 => ?_)
  · refine a_iconst (pc := 7) (v := nI 0) dX0_burn_7 (by decide) ?_
    refine a_istoren_3 (pc := 8) dX0_burn_8 (by decide) (by first | rfl | trivial) ?_
    exact lp 37 0 h (by omega) (by omega) (by rw [cburn_z 0 (fun r q => absurd q (Nat.not_lt_zero r))]; exact hk)
  · rw [bit_0] at c_3
    exact a_vret (pc := 6) dX0_burn_6 rfl (zf hz) (k h (by rw [cburn_z 36 c_3]; exact hk))
def hW (v : Cv) (r : Nat) : Nat := if r < 36 ∧ hgot v r = true then 0 else if r < 36 ∧ clit v r = true then cW v r - hless v r else cW v r
def hK (F : Lf) (v : Cv) (r : Nat) : Bool := (cK v r || (decide (r < 36) && hfell F v r)) && !(decide (r < 36) && hgot v r)
/-- the city an hour later -/
abbrev chour (F : Lf) (v : Cv) : Cv := (hW v, cG v, hK F v, cC v, (cH v, cB v, if cT v < 11 then cT v + 1 else 0), (fun i => decide (i < 36) && hfell F v i), (fun i => decide (i < 36) && hgot v i), 0 + bsum (hloop F v 36) (clit v) 36)
theorem chour_eq (F : Lf) (v : Cv) : cW (cout (cburn (hloop F v 36) (clit v) 36) (fun i => decide (i < 36) && hgot v i) 36) = hW v := by
  funext r
  unfold hW
  show (if r < 36 ∧ (decide (r < 36) && hgot v r) = true then 0 else if r < 36 ∧ clit v r = true then cW v r - hless v r else cW v r) = _
  by_cases e : r < 36
  · simp [e]
  · simp [e]
set_option maxRecDepth 100000 in
set_option maxHeartbeats 4000000 in
theorem y_passHour {G : Cx} {d a : Nat} {h h0 : List va_E} {v : Cv} {F : Lf} {Q : Option Value → List va_E → Prop} (hd : 5 ≤ d) (hz : gz G = false) (hk : CY G h0 h a v F) (k : ∀ h1, CY G h0 h1 a (chour F v) F → Q none h1) : AM G yX0_passHour cX0_passHour 7 none d 0 0 [.ref (gB G + a), .ref (gB G + 7)] h Q := by
  obtain ⟨d, rfl, he⟩ := dpos hd
  have okv := hk.ok
  have fin : ∀ (h1 : List va_E), CY G h0 h1 a (hloop F v 36) F → AW G yX0_passHour cX0_passHour 7 none (rmx (d + 1) 0 0) (ZQ G 0 0 (h.length + 0) Q) 0 0 120 [some (.ref (gB G + a)), some (.ref (gB G + 7)), some (.long (bL (clit v))), none, none, none, none] [] h1 := by
    intro h1 hk1
    have kk : ∀ (h9 : List va_E) (t : Nat), t = (if cT v < 11 then cT v + 1 else 0) → CY G h0 h9 a (cW (cout (cburn (hloop F v 36) (clit v) 36) (fun i => decide (i < 36) && hgot v i) 36), cG v, hK F v, cC v, (cH v, cB v, t), (fun i => decide (i < 36) && hfell F v i), (fun i => decide (i < 36) && hgot v i), 0 + bsum (hloop F v 36) (clit v) 36) F → Q none h9 := fun h9 t e H => k h9 (by subst e; rw [chour_eq F v] at H; exact H)
    refine a_aloadn_0 (pc := 120) dX0_passHour_120 ?_
    refine a_lloadn_2 (pc := 121) dX0_passHour_121 ?_
    refine cv_X0_100 (pc := 122) rfl dX0_passHour_122 hk1.ob (Nat.le_of_ble_eq_true rfl) ?_
    refine y_burn (by omega) hz hk1 rfl (fun h2 hk2 => ?_)
    have hk2 := (show CY G h0 h2 a (cburn (hloop F v 36) (clit v) 36) F from hk2)
    refine a_aloadn_0 (pc := 125) dX0_passHour_125 ?_
    refine a_aloadn_0 (pc := 126) dX0_passHour_126 ?_
    refine gf_X0_90 (pc := 127) rfl dX0_passHour_127 hk2.ob ?_
    refine a_topl (bL (fun i => decide (i < 36) && hgot v i)) rfl ?_
    refine cv_X0_104 (pc := 130) rfl dX0_passHour_130 hk2.ob (Nat.le_of_ble_eq_true rfl) ?_
    refine y_putOut (by omega) hz hk2 (fun h3 hk3 => ?_)
    refine a_aloadn_0 (pc := 133) dX0_passHour_133 ?_
    refine a_aloadn_0 (pc := 134) dX0_passHour_134 ?_
    refine gf_X0_42 (pc := 135) rfl dX0_passHour_135 hk3.ob ?_
    refine a_aloadn_0 (pc := 138) dX0_passHour_138 ?_
    refine gf_X0_87 (pc := 139) rfl dX0_passHour_139 hk3.ob ?_
    refine a_lor (pc := 142) dX0_passHour_142 ?_
    refine a_topl (bL (fun i => (cK ((cout (cburn (hloop F v 36) (clit v) 36) (fun i => decide (i < 36) && hgot v i) 36))) i || (cF ((cout (cburn (hloop F v 36) (clit v) 36) (fun i => decide (i < 36) && hgot v i) 36))) i)) (bL_or _ _) ?_
    refine a_aloadn_0 (pc := 143) dX0_passHour_143 ?_
    refine gf_X0_90 (pc := 144) rfl dX0_passHour_144 hk3.ob ?_
    refine a_ldc2 (pc := 147) dX0_passHour_147 w_422 ?_
    refine a_lxor (pc := 150) dX0_passHour_150 ?_
    refine a_land (pc := 151) dX0_passHour_151 ?_
    refine a_topl (bL (fun i => (cK v i || (decide (i < 36) && hfell F v i)) && !(decide (i < 36) && hgot v i))) (bL_andn _ _) ?_
    refine cyp_dark (x := fun i => (cK v i || (decide (i < 36) && hfell F v i)) && !(decide (i < 36) && hgot v i)) hk3 rfl dX0_passHour_152 (fun h4 hk4 => ?_)
    refine a_aloadn_0 (pc := 155) dX0_passHour_155 ?_
    refine a_aloadn_0 (pc := 156) dX0_passHour_156 ?_
    refine gf_X0_45 (pc := 157) rfl dX0_passHour_157 hk4.ob ?_
    refine a_topi (nI (cT v)) rfl ?_
    refine a_getsN (pc := 160) (i := 1) (host := RX11) (by decide) dX0_passHour_160 rfl (by decide +kernel) ?_
    refine a_bipush (pc := 163) (v := nI 6) dX0_passHour_163 (by decide) ?_
    refine a_sil (pc := 165) 6 (t := 1) (by decide) dX0_passHour_165 rfl (by decide) ?_
    refine a_topi (nI 11) (by decide) ?_
    have b5 := okv.2.2.2.2.2.1
    refine n_icmp_ge (tgt := 178) dX0_passHour_166 (by decide) (by omega) (by decide) (fun c_166 => ?_) (fun c_166 => ?_)
    · refine a_iconst (pc := 178) (v := nI 0) dX0_passHour_178 (by decide) ?_
      refine cyp_time (x := 0) hk4 (by omega) rfl dX0_passHour_179 (fun h5 hk5 => ?_)
      refine a_vret (pc := 182) dX0_passHour_182 rfl (zf hz) ?_
      exact kk _ _ (by first | rw [if_pos c_166] | rw [if_neg (Nat.not_lt.mpr c_166)]) hk5
    · refine a_aloadn_0 (pc := 169) dX0_passHour_169 ?_
      refine gf_X0_45 (pc := 170) rfl dX0_passHour_170 hk4.ob ?_
      refine a_topi (nI (cT v)) rfl ?_
      refine a_iconst (pc := 173) (v := nI 1) dX0_passHour_173 (by decide) ?_
      refine n_iadd dX0_passHour_174 ?_
      refine a_goto (pc := 175) (tgt := 179) dX0_passHour_175 (by decide) ?_
      refine cyp_time (x := cT v + 1) hk4 (by omega) rfl dX0_passHour_179 (fun h5 hk5 => ?_)
      refine a_vret (pc := 182) dX0_passHour_182 rfl (zf hz) ?_
      exact kk _ _ (by first | rw [if_pos c_166] | rw [if_neg (Nat.not_lt.mpr c_166)]) hk5
  have lp : ∀ (n : Nat) (r : Nat) (h1 : List va_E), 36 - r < n → r ≤ 36 → CY G h0 h1 a (hloop F v r) F → AW G yX0_passHour cX0_passHour 7 none (rmx (d + 1) 0 0) (ZQ G 0 0 (h.length + 0) Q) 0 0 23 [some (.ref (gB G + a)), some (.ref (gB G + 7)), some (.long (bL (clit v))), none, some (.int (nI (r))), none, none] [] h1 := by
    intro n
    induction n with
    | zero => intro r h1 hn; exact absurd hn (Nat.not_lt_zero _)
    | succ n ih =>
      intro r h1 hn hr36 hk1
      refine a_iload_4 (pc := 23) dX0_passHour_23 ?_
      refine a_bipush (pc := 25) (v := nI 36) dX0_passHour_25 (by decide) ?_
      refine n_icmp_ge (tgt := 120) dX0_passHour_27 (by decide) (by omega) (by decide) (fun hr => ?_) (fun hr => ?_)
      · refine a_ls (ls' := [some _, some _, some _, none, none, none, none]) ⟨rfl, rfl, rfl, trivial⟩ ?_
        obtain rfl : r = 36 := by omega
        exact fin h1 hk1
      · refine a_lconst (pc := 30) (v := 1) dX0_passHour_30 (by decide) ?_
        refine a_iload_4 (pc := 31) dX0_passHour_31 ?_
        refine a_lshl (pc := 33) dX0_passHour_33 ?_
        refine a_topl (bL (fun i => decide (i = r))) (bL_bit (by omega)) ?_
        refine a_lstore_5 (pc := 34) dX0_passHour_34 (by decide) (by first | rfl | trivial) ?_
        refine a_aloadn_0 (pc := 36) dX0_passHour_36 ?_
        refine gf_X0_42 (pc := 37) rfl dX0_passHour_37 hk1.ob ?_
        refine a_lload_5 (pc := 40) dX0_passHour_40 ?_
        refine a_land (pc := 42) dX0_passHour_42 ?_
        refine a_topl (bL (fun i => (cK ((hloop F v r))) i && (fun i => decide (i = r)) i)) (bL_and _ _) ?_
        refine a_lconst (pc := 43) (v := 0) dX0_passHour_43 (by decide) ?_
        refine a_lcmp (pc := 44) dX0_passHour_44 ?_
        refine a_if_eq (pc := 45) (tgt := 80) dX0_passHour_45 (by decide) (fun c_45 => ?_) (fun c_45 => ?_)
        · rw [bit_at (by omega)] at c_45
          have c_45 : cK v r = false := c_45
          refine a_lloadn_2 (pc := 80) dX0_passHour_80 ?_
          refine a_lload_5 (pc := 81) dX0_passHour_81 ?_
          refine a_land (pc := 83) dX0_passHour_83 ?_
          refine a_topl (bL (fun i => (clit v) i && (fun i => decide (i = r)) i)) (bL_and _ _) ?_
          refine a_lconst (pc := 84) (v := 0) dX0_passHour_84 (by decide) ?_
          refine a_lcmp (pc := 85) dX0_passHour_85 ?_
          refine a_if_ne (pc := 86) (tgt := 114) dX0_passHour_86 (by decide) (fun c_86 => ?_) (fun c_86 => ?_)
          · rw [bit_at (by omega), Bool.not_eq_false] at c_86
            have e1 : hfell F v r = false := by simp [hfell, c_45, c_86]
            have e2 : hgot v r = false := by simp [hgot, c_45, c_86]
            refine a_iinc_4 (pc := 114) (v := nI (r + 1)) dX0_passHour_114 (nI_add _ _) (by decide) (by first | rfl | trivial) ?_
            refine a_goto (pc := 117) (tgt := 23) dX0_passHour_117 (by decide) ?_
            refine a_ls (ls' := [some _, some _, some _, none, some _, none, none, none]) ⟨rfl, rfl, rfl, rfl, trivial⟩ ?_
            exact ih (r + 1) _ (by omega) (by omega) (by rw [hloop_s, e1, e2]; exact hk1)
          · rw [bit_at (by omega)] at c_86
            refine a_aloadn_0 (pc := 89) dX0_passHour_89 ?_
            refine a_iload_4 (pc := 90) dX0_passHour_90 ?_
            refine a_aloadn_1 (pc := 92) dX0_passHour_92 ?_
            refine cv_X0_96 (pc := 93) rfl dX0_passHour_93 hk1.ob (Nat.le_of_ble_eq_true rfl) ?_
            refine y_pressOn (by omega) hz hk1 (by omega) (fun h2 hk2 => ?_)
            refine a_topi (nI (prs F v r)) rfl ?_
            have b3 : prs F v r ≤ 9 := hk1.2.2.2.le _ _ _ _ _ _
            refine a_aloadn_0 (pc := 96) dX0_passHour_96 ?_
            refine gf_X0_18 (pc := 97) rfl dX0_passHour_97 hk2.ob ?_
            have b4 := okv.2.2.2.1
            refine a_topi (nI (cH v)) rfl ?_
            refine n_icmp_lt (tgt := 114) dX0_passHour_100 (by decide) (by omega) (by omega) (fun c_100 => ?_) (fun c_100 => ?_)
            · have e1 : hfell F v r = false := by simp [hfell, c_45, c_86, Nat.not_le.mpr c_100]
              have e2 : hgot v r = false := by simp [hgot, c_45, c_86, Nat.not_le.mpr c_100]
              refine a_iinc_4 (pc := 114) (v := nI (r + 1)) dX0_passHour_114 (nI_add _ _) (by decide) (by first | rfl | trivial) ?_
              refine a_goto (pc := 117) (tgt := 23) dX0_passHour_117 (by decide) ?_
              refine a_ls (ls' := [some _, some _, some _, none, some _, none, none, none]) ⟨rfl, rfl, rfl, rfl, trivial⟩ ?_
              exact ih (r + 1) _ (by omega) (by omega) (by rw [hloop_s, e1, e2]; exact hk2)
            · have e1 : hfell F v r = true := by simp [hfell, c_45, c_86, c_100]
              have e2 : hgot v r = false := by simp [hgot, c_45, c_86, c_100]
              refine a_aloadn_0 (pc := 103) dX0_passHour_103 ?_
              refine a_dup (pc := 104) dX0_passHour_104 rfl ?_
              refine gf_X0_87 (pc := 105) rfl dX0_passHour_105 hk2.ob ?_
              refine a_lload_5 (pc := 108) dX0_passHour_108 ?_
              refine a_lor (pc := 110) dX0_passHour_110 ?_
              refine a_topl (bL (fun i => (cF ((hloop F v r))) i || (fun i => decide (i = r)) i)) (bL_or _ _) ?_
              refine cyp_fell (x := fun i => (cF ((hloop F v r))) i || (fun i => decide (i = r)) i) hk2 rfl dX0_passHour_111 (fun h3 hk3 => ?_)
              refine a_iinc_4 (pc := 114) (v := nI (r + 1)) dX0_passHour_114 (nI_add _ _) (by decide) (by first | rfl | trivial) ?_
              refine a_goto (pc := 117) (tgt := 23) dX0_passHour_117 (by decide) ?_
              refine a_ls (ls' := [some _, some _, some _, none, some _, none, none, none]) ⟨rfl, rfl, rfl, rfl, trivial⟩ ?_
              exact ih (r + 1) _ (by omega) (by omega) (by rw [hloop_s, e1, e2]; exact hk3)
        · rw [bit_at (by omega), Bool.not_eq_false] at c_45
          have c_45 : cK v r = true := c_45
          refine a_lloadn_2 (pc := 48) dX0_passHour_48 ?_
          refine a_getsB (pc := 49) dX0_passHour_49 w_546 ?_
          refine a_iload_4 (pc := 52) dX0_passHour_52 ?_
          refine a_sll (pc := 54) r dX0_passHour_54 rfl (by omega) ?_
          refine a_topl (bL (bes r)) (bes_bL (by omega)) ?_
          refine a_land (pc := 55) dX0_passHour_55 ?_
          refine a_topl (bL (fun i => (clit v) i && (bes r) i)) (bL_and _ _) ?_
          refine cs_X0_54 (pc := 56) rfl dX0_passHour_56 (Nat.le_of_ble_eq_true rfl) ?_
          refine x_bitCount (by omega) hz ?_
          rw [ct_bL]
          refine a_topi (nI (lB (clit v) r)) rfl ?_
          have b1 := lB_lt (clit v) (show r < 36 by omega)
          refine a_aloadn_0 (pc := 59) dX0_passHour_59 ?_
          refine gf_X0_22 (pc := 60) rfl dX0_passHour_60 hk1.ob ?_
          have b2 := okv.2.2.2.2.1
          refine a_topi (nI (cB v)) rfl ?_
          refine n_icmp_lt (tgt := 114) dX0_passHour_63 (by decide) (by omega) (by omega) (fun c_63 => ?_) (fun c_63 => ?_)
          · have e1 : hfell F v r = false := by simp [hfell, c_45, Nat.not_le.mpr c_63]
            have e2 : hgot v r = false := by simp [hgot, c_45, Nat.not_le.mpr c_63]
            refine a_iinc_4 (pc := 114) (v := nI (r + 1)) dX0_passHour_114 (nI_add _ _) (by decide) (by first | rfl | trivial) ?_
            refine a_goto (pc := 117) (tgt := 23) dX0_passHour_117 (by decide) ?_
            refine a_ls (ls' := [some _, some _, some _, none, some _, none, none, none]) ⟨rfl, rfl, rfl, rfl, trivial⟩ ?_
            exact ih (r + 1) _ (by omega) (by omega) (by rw [hloop_s, e1, e2]; exact hk1)
          · have e1 : hfell F v r = false := by simp [hfell, c_45, c_63]
            have e2 : hgot v r = true := by simp [hgot, c_45, c_63]
            refine a_aloadn_0 (pc := 66) dX0_passHour_66 ?_
            refine a_dup (pc := 67) dX0_passHour_67 rfl ?_
            refine gf_X0_90 (pc := 68) rfl dX0_passHour_68 hk1.ob ?_
            refine a_lload_5 (pc := 71) dX0_passHour_71 ?_
            refine a_lor (pc := 73) dX0_passHour_73 ?_
            refine a_topl (bL (fun i => (cO ((hloop F v r))) i || (fun i => decide (i = r)) i)) (bL_or _ _) ?_
            refine cyp_gotBack (x := fun i => (cO ((hloop F v r))) i || (fun i => decide (i = r)) i) hk1 rfl dX0_passHour_74 (fun h3 hk3 => ?_)
            refine a_goto (pc := 77) (tgt := 114) dX0_passHour_77 (by decide) ?_
            refine a_iinc_4 (pc := 114) (v := nI (r + 1)) dX0_passHour_114 (nI_add _ _) (by decide) (by first | rfl | trivial) ?_
            refine a_goto (pc := 117) (tgt := 23) dX0_passHour_117 (by decide) ?_
            refine a_ls (ls' := [some _, some _, some _, none, some _, none, none, none]) ⟨rfl, rfl, rfl, rfl, trivial⟩ ?_
            exact ih (r + 1) _ (by omega) (by omega) (by rw [hloop_s, e1, e2]; exact hk3)
  refine AM.of [some (.ref (gB G + a)), some (.ref (gB G + 7)), none, none, none, none, none] pnX0 (Nat.le_of_ble_eq_true rfl) (by simp [lsub, lvI, Value.category]) ?_
  refine a_aloadn_0 (pc := 0) dX0_passHour_0 ?_
  refine cv_X0_50 (pc := 1) rfl dX0_passHour_1 hk.ob (Nat.le_of_ble_eq_true rfl) ?_
  refine x_lit (by omega) hz hk.2.2.1 ?_
  refine a_lstoren_2 (pc := 4) dX0_passHour_4 (by decide) (by first | rfl | trivial) ?_
  refine a_aloadn_0 (pc := 5) dX0_passHour_5 ?_
  refine a_lconst (pc := 6) (v := 0) dX0_passHour_6 (by decide) ?_
  refine a_topl (bL (fun _ => false)) bL_0.symm ?_
  refine cyp_fell (x := fun _ => false) hk rfl dX0_passHour_7 (fun h11 hk11 => ?_)
  refine a_aloadn_0 (pc := 10) dX0_passHour_10 ?_
  refine a_lconst (pc := 11) (v := 0) dX0_passHour_11 (by decide) ?_
  refine a_topl (bL (fun _ => false)) bL_0.symm ?_
  refine cyp_gotBack (x := fun _ => false) hk11 rfl dX0_passHour_12 (fun h12 hk12 => ?_)
  refine a_aloadn_0 (pc := 15) dX0_passHour_15 ?_
  refine a_iconst (pc := 16) (v := nI 0) dX0_passHour_16 (by decide) ?_
  refine cyp_burnt (x := 0) hk12 (by omega) rfl dX0_passHour_17 (fun h13 hk13 => ?_)
  refine a_iconst (pc := 20) (v := nI 0) dX0_passHour_20 (by decide) ?_
  refine a_istore_4 (pc := 21) dX0_passHour_21 (by decide) (by first | rfl | trivial) ?_
  exact lp 37 0 _ (by omega) (by omega) (by simpa [hloop] using hk13)
