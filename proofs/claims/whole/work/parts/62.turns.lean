/-! TURNS (48): its board (49) and the city behind the hours (52), laid on now (1) -/
theorem pnX8 : plainName RX8 = true := by decide
abbrev Tn : Type := Nat × Nat × Nat × Nat
abbrev unob (G : Cx) (s : Tn) : va_E := .inr (8, [.ref (gB G + 1), .ref (gB G + 7), .ref (gB G + 49), .ref (gB G + 52), .int (nI s.1), .int (nI s.2.1), .int (nI s.2.2.1), .int (nI s.2.2.2)])
def BQ (G : Cx) (h0 h : List va_E) (v x z : Cv) (F : Lf) (s : Tn) : Prop := FR 48 54 h0 h ∧ cityAt G h 1 v ∧ LawOK G h F ∧ h[48]? = some (unob G s) ∧ (∃ u, cityAt G h 49 u ∧ SC u x) ∧ ∃ u, cityAt G h 52 u ∧ SC u z
theorem LawOK_cell {G : Cx} {h : List va_E} {F : Lf} {k : Nat} {e : va_E} (hk : 24 < k ∨ k < 7) (H : LawOK G h F) : LawOK G (h.set k e) F := by
  obtain ⟨t, rd, x, vf, m, y, L⟩ := H
  have L1 : t = 8 ∨ t = 18 := L.1
  exact ⟨t, rd, x, vf, m, y, L.out (fun j hj => hs_ne (by omega) rfl)⟩
section BQs
variable {G : Cx} {h0 h : List va_E} {v x z : Cv} {F : Lf} {s : Tn} {d : Nat} {Q : Option Value → List va_E → Prop}
theorem BQ.ob (H : BQ G h0 h v x z F s) : h[48]? = some (unob G s) := H.2.2.2.1
theorem BQ.ob4 {rs m t fx : Nat} (H : BQ G h0 h v x z F (rs, m, t, fx)) : h[48]? = some (.inr (8, [.ref (gB G + 1), .ref (gB G + 7), .ref (gB G + 49), .ref (gB G + 52), .int (nI rs), .int (nI m), .int (nI t), .int (nI fx)])) := H.2.2.2.1
theorem BQ.now (H : BQ G h0 h v x z F s) : cityAt G h 1 v := H.2.1
theorem BQ.ok (H : BQ G h0 h v x z F s) : okC v := H.2.1.2.2.2
theorem BQ.okx (H : BQ G h0 h v x z F s) (r : Nat) : cW x r ≤ 99 := by
  obtain ⟨_, _, _, _, ⟨u, hu, hs⟩, _⟩ := H
  rw [← hs.1]; exact hu.2.2.2.1 r
theorem BQ.c49 (H : BQ G h0 h v x z F s) : ∃ fs, h[49]? = some (.inr (0, fs)) := by
  obtain ⟨_, _, _, _, ⟨u, hu, _⟩, _⟩ := H
  exact ⟨_, hu.1⟩
theorem BQ.c52 (H : BQ G h0 h v x z F s) : ∃ fs, h[52]? = some (.inr (0, fs)) := by
  obtain ⟨_, _, _, _, _, u, hu, _⟩ := H
  exact ⟨_, hu.1⟩
theorem BQ.put1 {u u' x' : Cv} (H : BQ G h0 h v x z F s) (hc : cityAt G h 49 u) (ok : okC u') (hs : SC u' x') : BQ G h0 (putC G h 49 u') v x' z F s := by
  obtain ⟨a1, a2, a3, a4, -, w, hw, hz⟩ := H
  exact ⟨a1.trans (FR.hx HX.put (by omega)), putC_far (by omega) a2, LawOK_put (by omega) a3, (putC_out (by omega)).trans a4, ⟨u', putC_at hc ok, hs⟩, w, putC_far (by omega) hw, hz⟩
theorem BQ.put2 {u u' z' : Cv} (H : BQ G h0 h v x z F s) (hc : cityAt G h 52 u) (ok : okC u') (hs : SC u' z') : BQ G h0 (putC G h 52 u') v x z' F s := by
  obtain ⟨a1, a2, a3, a4, ⟨w, hw, hz⟩, -⟩ := H
  exact ⟨a1.trans (FR.hx HX.put (by omega)), putC_far (by omega) a2, LawOK_put (by omega) a3, (putC_out (by omega)).trans a4, ⟨w, putC_far (by omega) hw, hz⟩, u', putC_at hc ok, hs⟩
theorem BQ.so {s' : Tn} (H : BQ G h0 h v x z F s) : BQ G h0 (h.set 48 (unob G s')) v x z F s' := by
  obtain ⟨a1, a2, a3, a4, ⟨w, hw, hx⟩, u, hu, hz⟩ := H
  exact ⟨a1.trans (FR.set (by omega)), ⟨hs_ne (by omega) a2.1, hs_ne (by omega) a2.2.1, hs_ne (by omega) a2.2.2.1, a2.2.2.2⟩, LawOK_cell (by omega) a3, hs_eq a4, ⟨w, ⟨hs_ne (by omega) hw.1, hs_ne (by omega) hw.2.1, hs_ne (by omega) hw.2.2.1, hw.2.2.2⟩, hx⟩, u, ⟨hs_ne (by omega) hu.1, hs_ne (by omega) hu.2.1, hs_ne (by omega) hu.2.2.1, hu.2.2.2⟩, hz⟩
theorem t_copyB (hd : 2 ≤ d) (hz : gz G = false) (H : BQ G h0 h v x z F s) (k : ∀ h1, BQ G h0 h1 v v z F s → Q none h1) : AM G yX0_copy cX0_copy 2 none d 0 0 [.ref (gB G + 49), .ref (gB G + 1)] h Q := by
  obtain ⟨u, hu, hs⟩ := H.2.2.2.2.1
  exact x_copy hd hz hu H.now (by omega) (k _ (H.put1 hu (okC_copy hu.2.2.2 H.ok) ⟨rfl, rfl, rfl, rfl, rfl⟩))
theorem t_copyT (hd : 2 ≤ d) (hz : gz G = false) (H : BQ G h0 h v x z F s) (k : ∀ h1, BQ G h0 h1 v x x F s → Q none h1) : AM G yX0_copy cX0_copy 2 none d 0 0 [.ref (gB G + 52), .ref (gB G + 49)] h Q := by
  obtain ⟨u, hu, hs⟩ := H.2.2.2.2.1
  obtain ⟨w, hw, hs2⟩ := H.2.2.2.2.2
  exact x_copy hd hz hw hu (by omega) (k _ (H.put2 hw (okC_copy hw.2.2.2 hu.2.2.2) ⟨hs.1, hs.2.1, hs.2.2.1, hs.2.2.2.1, hs.2.2.2.2⟩))
theorem t_setWax {r w : Nat} (hd : 2 ≤ d) (hz : gz G = false) (H : BQ G h0 h v x z F s) (hr : r < 36) (hw : w ≤ 99) (k : ∀ h1, BQ G h0 h1 v (csW x r w) z F s → Q none h1) : AM G yX0_setWax cX0_setWax 3 none d 0 0 [.ref (gB G + 49), .int (nI r), .int (nI w)] h Q := by
  obtain ⟨u, hu, hs⟩ := H.2.2.2.2.1
  exact x_setWax hd hz hu hr hw (k _ (H.put1 hu (okC_W hu.2.2.2 hr hw) (SC_W hs r w)))
theorem t_hour (hd : 5 ≤ d) (hz : gz G = false) (H : BQ G h0 h v x z F s) (k : ∀ h1, BQ G h0 h1 v x (chour F z) F s → Q none h1) : AM G yX0_passHour cX0_passHour 7 none d 0 0 [.ref (gB G + 52), .ref (gB G + 7)] h Q := by
  obtain ⟨a1, a2, a3, a4, ⟨w, hw, hs2⟩, u, hu, hs⟩ := H
  refine y_passHour hd hz (h0 := h) (v := u) (F := F) ⟨by omega, HX.rfl' 52 h, hu, a3⟩ (fun h1 H1 => k h1 ?_)
  obtain ⟨-, b1, b2, b3⟩ := H1
  exact ⟨a1.trans (FR.hx b1 (by omega)), cityX (by omega) (by omega) a2 b1, b3, (b1.2.1 48 (by omega) (by omega) (by omega) (by omega)).trans a4, ⟨w, cityX (by omega) (by omega) hw b1, hs2⟩, _, b2, by rw [chour_SC hs]; exact SC.refl _⟩
theorem t_isDark {r : Nat} (hd : 1 ≤ d) (hz : gz G = false) (H : BQ G h0 h v x z F s) (hr : r < 36) (k : Q (some (.int (bI (cK x r)))) h) : AM G yX0_isDark cX0_isDark 2 (some .boolean) d 0 0 [.ref (gB G + 49), .int (nI r)] h Q := by
  obtain ⟨u, hu, hs⟩ := H.2.2.2.2.1
  exact x_isDark hd hz hu hr (by rw [hs.2.2.1]; exact k)
theorem t_darkCount (hd : 2 ≤ d) (hz : gz G = false) (H : BQ G h0 h v x z F s) (k : Q (some (.int (nI (ctn (cK z) 36)))) h) : AM G yX0_darkCount cX0_darkCount 1 (some .int) d 0 0 [.ref (gB G + 52)] h Q := by
  obtain ⟨u, hu, hs⟩ := H.2.2.2.2.2
  exact x_darkCount hd hz hu (by rw [hs.2.2.1]; exact k)
end BQs
section BQr
variable {G : Cx} {y : MethodName} {cc : ByteArray} {mL : Nat} {rt : Option FieldType} {R : Room} {Z : List Frame → Array Value → State → State → Prop} {cn sn pc : Nat} {ls : List (Option Value)} {st : List Value} {h h0 : List va_E} {v x z : Cv} {F : Lf} {s : Tn}
theorem tg_wax (H : BQ G h0 h v x z F s) (ho : y.cls = RX8) (hd : decode cc pc = .ok (.getfield 63, 3)) (kk : AW G y cc mL rt R Z cn sn (pc + 3) ls (.ref (gB G + 50) :: st) h) : AW G y cc mL rt R Z cn sn pc ls (.ref (gB G + 49) :: st) h := by
  obtain ⟨u, hu, hs⟩ := H.2.2.2.2.1
  exact gf_X8_63 ho hd hu.1 kk
theorem tl_wax {j : Nat} (H : BQ G h0 h v x z F s) (hd : decode cc pc = .ok (.iaload, 1)) (hj : j < 36) (kk : AW G y cc mL rt R Z cn sn (pc + 1) ls (.int (nI (cW x j)) :: st) h) : AW G y cc mL rt R Z cn sn pc ls (.int (nI j) :: .ref (gB G + 50) :: st) h := by
  obtain ⟨u, hu, hs⟩ := H.2.2.2.2.1
  exact b_iald j hd hu.2.1 rfl hj (by decide) (by rw [hs.1]; exact kk)
end BQr
/-- what the wax is behind a deed -/
def hasB (g : Bool) (v : Cv) (r : Nat) : Nat := if g then (if cK v r then cW v r else min 99 (cW v r + 12)) else 0
def betB (g : Bool) (a b : Nat) : Bool := if g then decide (a < b) else decide (b < a)
def tfold (f : Cv → Nat) (g : Bool) (rs : Nat) (v : Cv) : Nat → Nat × Nat
  | 0 => (f v, 6)
  | k + 1 => if hasB g v (rs + k) = cW v (rs + k) then tfold f g rs v k else if betB g (f (csW v (rs + k) (hasB g v (rs + k)))) (tfold f g rs v k).1 = true then (f (csW v (rs + k) (hasB g v (rs + k))), k) else tfold f g rs v k
/-- the outcome with j deeds to come -/
def outT (F : Lf) (rs t : Nat) : Nat → Bool → Cv → Nat
  | 0, _, v => ctn (cK (hrs F t v)) 36
  | j + 1, g, v => (tfold (outT F rs t j (!g)) g rs v 6).1
theorem csW_back (v : Cv) (r a : Nat) : csW (csW v r a) r (cW v r) = v := by
  obtain ⟨W, Z⟩ := v
  show (va_up (va_up W r a) r (W r), Z) = (W, Z)
  have : va_up (va_up W r a) r (W r) = W := by
    funext i
    unfold va_up
    by_cases e : i = r
    · rw [if_pos e, e]
    · rw [if_neg e, if_neg e]
  rw [this]
theorem tfold_le {f : Cv → Nat} {g : Bool} {rs : Nat} {v : Cv} (h : ∀ u, f u ≤ 36) : ∀ k, (tfold f g rs v k).1 ≤ 36 ∧ (tfold f g rs v k).2 ≤ 6 + k
  | 0 => ⟨h v, Nat.le_refl _⟩
  | k + 1 => by
    have ih := tfold_le (g := g) (rs := rs) (v := v) h k
    rw [tfold]
    split
    · exact ⟨ih.1, by omega⟩
    · split
      · exact ⟨h _, by show k ≤ _; omega⟩
      · exact ⟨ih.1, by omega⟩
theorem outT_le {F : Lf} {rs t : Nat} : ∀ j g v, outT F rs t j g v ≤ 36
  | 0, _, _ => ctn_le _ _
  | j + 1, g, v => (tfold_le (fun u => outT_le j (!g) u) 6).1
set_option maxRecDepth 100000 in
set_option maxHeartbeats 4000000 in
theorem t_waxBehind {G : Cx} {d : Nat} {h h0 : List va_E} {v x z : Cv} {F : Lf} {s : Tn} {Q : Option Value → List va_E → Prop} (hd : 2 ≤ d) (hz : gz G = false) (hm : BQ G h0 h v x z F s) {r : Nat} {g : Bool} (hr : r < 36) (k : Q (some (.int (nI (hasB g x r)))) h) : AM G yX8_waxBehind cX8_waxBehind 3 (some .int) d 0 0 [.ref (gB G + 48), .int (nI (r)), .int (bI (g))] h Q := by
  obtain ⟨d, rfl, he⟩ := dpos hd
  refine AM.of [some (.ref (gB G + 48)), some (.int (nI (r))), some (.int (bI (g)))] pnX8 (Nat.le_of_ble_eq_true rfl) (by simp [lsub, lvI, Value.category]) ?_
  refine a_iloadn_2 (pc := 0) dX8_waxBehind_0 ?_
  refine b_if_ne (pc := 1) (tgt := 6) dX8_waxBehind_1 (by decide) (fun c_1 => ?_) (fun c_1 => ?_)
  · refine a_aloadn_0 (pc := 6) dX8_waxBehind_6 ?_
    have w99 := hm.okx r
    refine gf_X8_12 (pc := 7) rfl dX8_waxBehind_7 hm.ob ?_
    refine a_iloadn_1 (pc := 10) dX8_waxBehind_10 ?_
    refine cv_X8_75 (pc := 11) rfl dX8_waxBehind_11 hm.c49.choose_spec (Nat.le_of_ble_eq_true rfl) ?_
    refine t_isDark (by omega) hz hm (by omega) ?_
    refine b_if_eq (pc := 14) (tgt := 29) dX8_waxBehind_14 (by decide) (fun c_14 => ?_) (fun c_14 => ?_)
    · refine a_bipush (pc := 29) (v := nI 99) dX8_waxBehind_29 (by decide) ?_
      refine a_aloadn_0 (pc := 31) dX8_waxBehind_31 ?_
      refine gf_X8_12 (pc := 32) rfl dX8_waxBehind_32 hm.ob ?_
      refine tg_wax hm rfl dX8_waxBehind_35 ?_
      refine a_iloadn_1 (pc := 38) dX8_waxBehind_38 ?_
      refine tl_wax hm dX8_waxBehind_39 (by omega) ?_
      refine a_bipush (pc := 40) (v := nI 12) dX8_waxBehind_40 (by decide) ?_
      refine n_iadd dX8_waxBehind_42 ?_
      refine a_mminR (pc := 43) dX8_waxBehind_43 w_798 (Nat.le_of_ble_eq_true rfl) ?_
      refine a_topi (nI (min 99 (cW x r + 12))) (mmin_nI (by decide) (by omega)) ?_
      exact a_iret (pc := 46) dX8_waxBehind_46 rfl (zf hz) (by rw [show hasB g x r = min 99 (cW x r + 12) by rw [hasB, c_1, c_14]; rfl] at k; exact k)
    · refine a_aloadn_0 (pc := 17) dX8_waxBehind_17 ?_
      refine gf_X8_12 (pc := 18) rfl dX8_waxBehind_18 hm.ob ?_
      refine tg_wax hm rfl dX8_waxBehind_21 ?_
      refine a_iloadn_1 (pc := 24) dX8_waxBehind_24 ?_
      refine tl_wax hm dX8_waxBehind_25 (by omega) ?_
      refine a_goto (pc := 26) (tgt := 46) dX8_waxBehind_26 (by decide) ?_
      exact a_iret (pc := 46) dX8_waxBehind_46 rfl (zf hz) (by rw [show hasB g x r = cW x r by rw [hasB, c_1, c_14]; rfl] at k; exact k)
  · refine a_iconst (pc := 4) (v := nI 0) dX8_waxBehind_4 (by decide) ?_
    exact a_iret (pc := 5) dX8_waxBehind_5 rfl (zf hz) (by rw [show hasB g x r = 0 by rw [hasB, c_1]; rfl] at k; exact k)
def fxT (F : Lf) (rs t : Nat) (j e : Nat) (x : Cv) (fx : Nat) : Nat := match j with
  | 0 => fx
  | j + 1 => if e = 0 then (tfold (outT F rs t j (!decide (e % 2 = 0))) (decide (e % 2 = 0)) rs x 6).2 else fx
theorem fxT_s {F : Lf} {rs t j e : Nat} {x : Cv} {fx : Nat} : fxT F rs t j (e + 1) x fx = fx := by
  cases j with
  | zero => rfl
  | succ j => rw [fxT, if_neg (Nat.succ_ne_zero e)]
section TFs
variable {f : Cv → Nat} {g : Bool} {rs k a b : Nat} {v : Cv}
theorem tf_skip (h : hasB g v (rs + k) = cW v (rs + k)) : tfold f g rs v (k + 1) = tfold f g rs v k := if_pos h
theorem tf_bet (h : ¬ hasB g v (rs + k) = cW v (rs + k)) (h2 : betB g (f (csW v (rs + k) (hasB g v (rs + k)))) (tfold f g rs v k).1 = true) : tfold f g rs v (k + 1) = (f (csW v (rs + k) (hasB g v (rs + k))), k) := (if_neg h).trans (if_pos h2)
theorem tf_not (h : ¬ hasB g v (rs + k) = cW v (rs + k)) (h2 : ¬ betB g (f (csW v (rs + k) (hasB g v (rs + k)))) (tfold f g rs v k).1 = true) : tfold f g rs v (k + 1) = tfold f g rs v k := (if_neg h).trans (if_neg h2)
theorem bet_t (hg : g = true) (h : a < b) : betB g a b = true := by subst hg; exact decide_eq_true h
theorem bet_f (hg : g = false) (h : b < a) : betB g a b = true := by subst hg; exact decide_eq_true h
theorem nb_t (hg : g = true) (h : ¬ a < b) : ¬ betB g a b = true := by subst hg; exact fun q => h (of_decide_eq_true q)
theorem nb_f (hg : g = false) (h : ¬ b < a) : ¬ betB g a b = true := by subst hg; exact fun q => h (of_decide_eq_true q)
theorem hasB_le (h : cW v rs ≤ 99) : hasB g v rs ≤ 99 := by
  unfold hasB
  split
  · split
    · exact h
    · omega
  · omega
end TFs
set_option maxRecDepth 100000 in
set_option maxHeartbeats 4000000 in
theorem t_outcome {G : Cx} {h0 : List va_E} {v : Cv} {F : Lf} (hz : gz G = false) : ∀ (j : Nat) {d : Nat} {h : List va_E} {x z : Cv} {rs m t fx e : Nat} {Q : Option Value → List va_E → Prop}, 8 + j ≤ d → BQ G h0 h v x z F (rs, m, t, fx) → e + j = m → m ≤ 100 → rs + 5 < 36 → t < 1000 → fx ≤ 100 → (e = 0 → fx = 6) → (∀ h1 z1, BQ G h0 h1 v x z1 F (rs, m, t, fxT F rs t j e x fx) → Q (some (.int (nI (outT F rs t j (decide (e % 2 = 0)) x)))) h1) → AM G yX8_outcome cX8_outcome 8 (some .int) d 0 0 [.ref (gB G + 48), .int (nI e)] h Q := by
  intro j
  induction j with
  | zero =>
    intro d h x z rs m t fx e Q hd hm hej hn hr ht hfx h6 k
    obtain ⟨d, rfl, he⟩ := dpos hd
    have lp : ∀ (n : Nat) (i : Nat) (h1 : List va_E), t - i < n → (i ≤ t) → (BQ G h0 h1 v x (hrs F i x) F (rs, m, t, fx)) → AW G yX8_outcome cX8_outcome 8 (some .int) (rmx (d + 1) 0 0) (ZQ G 0 0 (h.length + 0) Q) 0 0 21 [some (.ref (gB G + 48)), some (.int (nI (e))), some (.int (nI (i))), none, none, none, none, none] [] h1 := by
      intro n
      induction n with
      | zero => intro i h1 hn; exact absurd hn (Nat.not_lt_zero _)
      | succ n ih =>
        intro i h1 hn hi hm1
        refine a_iloadn_2 (pc := 21) dX8_outcome_21 ?_
        refine a_aloadn_0 (pc := 22) dX8_outcome_22 ?_
        refine gf_X8_41 (pc := 23) rfl dX8_outcome_23 hm1.ob4 ?_
        refine n_icmp_ge (tgt := 46) dX8_outcome_26 (by decide) (by omega) (by omega) (fun c_26 => ?_) (fun c_26 => ?_)
        · have hi9 : i = t := by omega
          subst hi9
          refine a_aloadn_0 (pc := 46) dX8_outcome_46 ?_
          refine gf_X8_18 (pc := 47) rfl dX8_outcome_47 hm1.ob4 ?_
          refine cv_X8_59 (pc := 50) rfl dX8_outcome_50 hm1.c52.choose_spec (Nat.le_of_ble_eq_true rfl) ?_
          refine t_darkCount (by omega) hz hm1 ?_
          exact a_iret (pc := 53) dX8_outcome_53 rfl (zf hz) (k _ _ hm1)
        · refine a_aloadn_0 (pc := 29) dX8_outcome_29 ?_
          refine gf_X8_18 (pc := 30) rfl dX8_outcome_30 hm1.ob4 ?_
          refine a_aloadn_0 (pc := 33) dX8_outcome_33 ?_
          refine gf_X8_24 (pc := 34) rfl dX8_outcome_34 hm1.ob4 ?_
          refine cv_X8_55 (pc := 37) rfl dX8_outcome_37 hm1.c52.choose_spec (Nat.le_of_ble_eq_true rfl) ?_
          refine t_hour (by omega) hz hm1 (fun h3 hm3 => ?_)
          refine a_iinc_2 (pc := 40) (v := nI (i + 1)) dX8_outcome_40 (nI_add _ _) (by decide) (by first | rfl | trivial) ?_
          refine a_goto (pc := 43) (tgt := 21) dX8_outcome_43 (by decide) ?_
          exact ih (i + 1) _ (by omega) (by omega) hm3
    refine AM.of [some (.ref (gB G + 48)), some (.int (nI (e))), none, none, none, none, none, none] pnX8 (Nat.le_of_ble_eq_true rfl) (by simp [lsub, lvI, Value.category]) ?_
    refine a_iloadn_1 (pc := 0) dX8_outcome_0 ?_
    refine a_aloadn_0 (pc := 1) dX8_outcome_1 ?_
    refine gf_X8_38 (pc := 2) rfl dX8_outcome_2 hm.ob4 ?_
    refine n_icmp_lt (tgt := 54) dX8_outcome_5 (by decide) (by omega) (by omega) (fun c_5 => by omega) (fun c_5 => ?_)
    refine a_aloadn_0 (pc := 8) dX8_outcome_8 ?_
    refine gf_X8_18 (pc := 9) rfl dX8_outcome_9 hm.ob4 ?_
    refine a_aloadn_0 (pc := 12) dX8_outcome_12 ?_
    refine gf_X8_12 (pc := 13) rfl dX8_outcome_13 hm.ob4 ?_
    refine cv_X8_47 (pc := 16) rfl dX8_outcome_16 hm.c52.choose_spec (Nat.le_of_ble_eq_true rfl) ?_
    refine t_copyT (by omega) hz hm (fun h1 hm1 => ?_)
    refine a_iconst (pc := 19) (v := nI 0) dX8_outcome_19 (by decide) ?_
    refine a_istoren_2 (pc := 20) dX8_outcome_20 (by decide) (by first | rfl | trivial) ?_
    exact lp (t + 1) 0 _ (by omega) (by omega) hm1
  | succ j ihj =>
    intro d h x z rs m t fx e Q hd hm hej hn hr ht hfx h6 k
    obtain ⟨d, rfl, he⟩ := dpos hd
    obtain ⟨g, hg⟩ : ∃ g : Bool, g = decide (e % 2 = 0) := ⟨_, rfl⟩
    have hg1 : decide ((e + 1) % 2 = 0) = !g := by
      rw [hg]
      by_cases q : e % 2 = 0
      · rw [decide_eq_true q, decide_eq_false (by omega)]; rfl
      · rw [decide_eq_false q, decide_eq_true (by omega)]; rfl
    obtain ⟨f, hf⟩ : ∃ f : Cv → Nat, f = outT F rs t j (!g) := ⟨_, rfl⟩
    have f36 : ∀ u, f u ≤ 36 := fun u => by rw [hf]; exact outT_le j _ u
    have IH : ∀ {d : Nat} {h : List va_E} {x z : Cv} {fx : Nat} {Q : Option Value → List va_E → Prop}, 8 + j ≤ d → BQ G h0 h v x z F (rs, m, t, fx) → fx ≤ 100 → (∀ h1 z1, BQ G h0 h1 v x z1 F (rs, m, t, fx) → Q (some (.int (nI (f x)))) h1) → AM G yX8_outcome cX8_outcome 8 (some .int) d 0 0 [.ref (gB G + 48), .int (nI (e + 1))] h Q := by
      intro d h x z fx Q hd hm hfx k
      refine ihj (e := e + 1) hd hm (by show e + 1 + j = _; omega) hn hr ht hfx (fun q => absurd q (Nat.succ_ne_zero e)) (fun h1 z1 q => ?_)
      rw [fxT_s] at q
      rw [hg1]
      rw [hf] at k
      exact k h1 z1 q
    have lp : ∀ (n : Nat) (i b fy : Nat) (z : Cv) (h1 : List va_E), 6 - i < n → (i ≤ 6) → (fy ≤ 100) → (b = (tfold f g rs x i).1) → (fy = if e = 0 then (tfold f g rs x i).2 else fx) → (BQ G h0 h1 v x z F (rs, m, t, fy)) → AW G yX8_outcome cX8_outcome 8 (some .int) (rmx (d + 1) 0 0) (ZQ G 0 0 (h.length + 0) Q) 0 0 77 [some (.ref (gB G + 48)), some (.int (nI (e))), some (.int (bI (g))), some (.int (nI (b))), some (.int (nI (i))), none, none, none] [] h1 := by
      intro n
      induction n with
      | zero => intro i b fy z h1 hn; exact absurd hn (Nat.not_lt_zero _)
      | succ n ih =>
        intro i b fy z h1 hn hi hx hb hf1 hm1
        refine a_iload_4 (pc := 77) dX8_outcome_77 ?_
        refine a_bipush (pc := 79) (v := nI 6) dX8_outcome_79 (by decide) ?_
        refine n_icmp_ge (tgt := 204) dX8_outcome_81 (by decide) (by omega) (by decide) (fun c_81 => ?_) (fun c_81 => ?_)
        · have hi6 : i = 6 := by omega
          subst hi6
          have e1 : outT F rs t (j + 1) (decide (e % 2 = 0)) x = b := by rw [hb, hf, hg]; rfl
          have e2 : fxT F rs t (j + 1) e x fx = fy := by rw [hf1, hf, hg]; rfl
          rw [e1, e2] at k
          refine a_iloadn_3 (pc := 204) dX8_outcome_204 ?_
          exact a_iret (pc := 205) dX8_outcome_205 rfl (zf hz) (k _ _ hm1)
        · have w99 := hm1.okx (rs + i)
          have b99 := hasB_le (g := g) w99
          have tl := tfold_le (g := g) (rs := rs) (v := x) f36 i
          rw [← hb] at tl
          refine a_aloadn_0 (pc := 84) dX8_outcome_84 ?_
          refine gf_X8_12 (pc := 85) rfl dX8_outcome_85 hm1.ob4 ?_
          refine tg_wax hm1 rfl dX8_outcome_88 ?_
          refine a_aloadn_0 (pc := 91) dX8_outcome_91 ?_
          refine gf_X8_28 (pc := 92) rfl dX8_outcome_92 hm1.ob4 ?_
          refine a_iload_4 (pc := 95) dX8_outcome_95 ?_
          refine n_iadd dX8_outcome_97 ?_
          refine tl_wax hm1 dX8_outcome_98 (by omega) ?_
          refine a_istore_5 (pc := 99) dX8_outcome_99 (by decide) (by first | rfl | trivial) ?_
          refine a_aloadn_0 (pc := 101) dX8_outcome_101 ?_
          refine a_aloadn_0 (pc := 102) dX8_outcome_102 ?_
          refine gf_X8_28 (pc := 103) rfl dX8_outcome_103 hm1.ob4 ?_
          refine a_iload_4 (pc := 106) dX8_outcome_106 ?_
          refine n_iadd dX8_outcome_108 ?_
          refine a_iloadn_2 (pc := 109) dX8_outcome_109 ?_
          refine cv_X8_67 (pc := 110) rfl dX8_outcome_110 hm1.ob4 (Nat.le_of_ble_eq_true rfl) ?_
          refine t_waxBehind (by omega) hz hm1 (by omega) ?_
          refine a_istore_6 (pc := 113) dX8_outcome_113 (by decide) (by first | rfl | trivial) ?_
          refine a_iload_6 (pc := 115) dX8_outcome_115 ?_
          refine a_iload_5 (pc := 117) dX8_outcome_117 ?_
          refine n_icmp_ne (tgt := 125) dX8_outcome_119 (by decide) (by omega) (by omega) (fun c_119 => ?_) (fun c_119 => ?_)
          · refine a_aloadn_0 (pc := 125) dX8_outcome_125 ?_
            refine gf_X8_12 (pc := 126) rfl dX8_outcome_126 hm1.ob4 ?_
            refine a_aloadn_0 (pc := 129) dX8_outcome_129 ?_
            refine gf_X8_28 (pc := 130) rfl dX8_outcome_130 hm1.ob4 ?_
            refine a_iload_4 (pc := 133) dX8_outcome_133 ?_
            refine n_iadd dX8_outcome_135 ?_
            refine a_iload_6 (pc := 136) dX8_outcome_136 ?_
            refine cv_X8_71 (pc := 138) rfl dX8_outcome_138 hm1.c49.choose_spec (Nat.le_of_ble_eq_true rfl) ?_
            refine t_setWax (by omega) hz hm1 (by omega) (by omega) (fun h3 hm3 => ?_)
            refine a_aloadn_0 (pc := 141) dX8_outcome_141 ?_
            refine a_iloadn_1 (pc := 142) dX8_outcome_142 ?_
            refine a_iconst (pc := 143) (v := nI 1) dX8_outcome_143 (by decide) ?_
            refine n_iadd dX8_outcome_144 ?_
            refine cv_X8_51 (pc := 145) rfl dX8_outcome_145 hm3.ob4 (Nat.le_of_ble_eq_true rfl) ?_
            refine IH (by omega) hm3 (by omega) (fun h4 z4 hm4 => ?_)
            have f36_4 := f36 ((csW x (rs + i) (hasB g x (rs + i))))
            refine a_istore_7 (pc := 148) dX8_outcome_148 (by decide) (by first | rfl | trivial) ?_
            refine a_aloadn_0 (pc := 150) dX8_outcome_150 ?_
            refine gf_X8_12 (pc := 151) rfl dX8_outcome_151 hm4.ob4 ?_
            refine a_aloadn_0 (pc := 154) dX8_outcome_154 ?_
            refine gf_X8_28 (pc := 155) rfl dX8_outcome_155 hm4.ob4 ?_
            refine a_iload_4 (pc := 158) dX8_outcome_158 ?_
            refine n_iadd dX8_outcome_160 ?_
            refine a_iload_5 (pc := 161) dX8_outcome_161 ?_
            refine cv_X8_71 (pc := 163) rfl dX8_outcome_163 hm4.c49.choose_spec (Nat.le_of_ble_eq_true rfl) ?_
            refine t_setWax (by omega) hz hm4 (by omega) (by omega) (fun h5 hm5 => ?_)
            rw [csW_back] at hm5
            refine a_iloadn_2 (pc := 166) dX8_outcome_166 ?_
            refine b_if_eq (pc := 167) (tgt := 179) dX8_outcome_167 (by decide) (fun c_167 => ?_) (fun c_167 => ?_)
            · refine a_iload_7 (pc := 179) dX8_outcome_179 ?_
              refine a_iloadn_3 (pc := 181) dX8_outcome_181 ?_
              refine n_icmp_le (tgt := 198) dX8_outcome_182 (by decide) (by omega) (by omega) (fun c_182 => ?_) (fun c_182 => ?_)
              · have hM := tf_not (f := f) c_119 (nb_f c_167 (by rw [← hb]; omega))
                refine a_iinc_4 (pc := 198) (v := nI (i + 1)) dX8_outcome_198 (nI_add _ _) (by decide) (by first | rfl | trivial) ?_
                refine a_goto (pc := 201) (tgt := 77) dX8_outcome_201 (by decide) ?_
                refine a_ls (ls' := [some _, some _, some _, some _, some _, none, none, none, none]) ⟨rfl, rfl, rfl, rfl, rfl, trivial⟩ ?_
                exact ih (i + 1) _ _ _ _ (by omega) (by omega) (by omega) (by first | (rw [hM]; exact hb) | rw [hM]) (by first | (rw [hM]; exact hf1) | (rw [if_neg (show ¬ e = 0 by omega)]; rw [if_neg (show ¬ e = 0 by omega)] at hf1; exact hf1) | rw [if_pos c_189, hM]) hm5
              · have hM := tf_bet (f := f) c_119 (bet_f c_167 (by rw [← hb]; omega))
                refine a_iload_7 (pc := 185) dX8_outcome_185 ?_
                refine a_istoren_3 (pc := 187) dX8_outcome_187 (by decide) (by first | rfl | trivial) ?_
                refine a_iloadn_1 (pc := 188) dX8_outcome_188 ?_
                refine n_if_ne (tgt := 198) dX8_outcome_189 (by decide) (by omega) (fun c_189 => ?_) (fun c_189 => ?_)
                · refine a_iinc_4 (pc := 198) (v := nI (i + 1)) dX8_outcome_198 (nI_add _ _) (by decide) (by first | rfl | trivial) ?_
                  refine a_goto (pc := 201) (tgt := 77) dX8_outcome_201 (by decide) ?_
                  refine a_ls (ls' := [some _, some _, some _, some _, some _, none, none, none, none]) ⟨rfl, rfl, rfl, rfl, rfl, trivial⟩ ?_
                  exact ih (i + 1) _ _ _ _ (by omega) (by omega) (by omega) (by first | (rw [hM]; exact hb) | rw [hM]) (by first | (rw [hM]; exact hf1) | (rw [if_neg (show ¬ e = 0 by omega)]; rw [if_neg (show ¬ e = 0 by omega)] at hf1; exact hf1) | rw [if_pos c_189, hM]) hm5
                · refine a_aloadn_0 (pc := 192) dX8_outcome_192 ?_
                  refine a_iload_4 (pc := 193) dX8_outcome_193 ?_
                  refine pf_X8_44 (pc := 195) rfl dX8_outcome_195 hm5.ob4 ?_
                  have hm6 := hm5.so (s' := (rs, m, t, i))
                  refine a_iinc_4 (pc := 198) (v := nI (i + 1)) dX8_outcome_198 (nI_add _ _) (by decide) (by first | rfl | trivial) ?_
                  refine a_goto (pc := 201) (tgt := 77) dX8_outcome_201 (by decide) ?_
                  refine a_ls (ls' := [some _, some _, some _, some _, some _, none, none, none, none]) ⟨rfl, rfl, rfl, rfl, rfl, trivial⟩ ?_
                  exact ih (i + 1) _ _ _ _ (by omega) (by omega) (by omega) (by first | (rw [hM]; exact hb) | rw [hM]) (by first | (rw [hM]; exact hf1) | (rw [if_neg (show ¬ e = 0 by omega)]; rw [if_neg (show ¬ e = 0 by omega)] at hf1; exact hf1) | rw [if_pos c_189, hM]) hm6
            · refine a_iload_7 (pc := 170) dX8_outcome_170 ?_
              refine a_iloadn_3 (pc := 172) dX8_outcome_172 ?_
              refine n_icmp_ge (tgt := 198) dX8_outcome_173 (by decide) (by omega) (by omega) (fun c_173 => ?_) (fun c_173 => ?_)
              · have hM := tf_not (f := f) c_119 (nb_t c_167 (by rw [← hb]; omega))
                refine a_iinc_4 (pc := 198) (v := nI (i + 1)) dX8_outcome_198 (nI_add _ _) (by decide) (by first | rfl | trivial) ?_
                refine a_goto (pc := 201) (tgt := 77) dX8_outcome_201 (by decide) ?_
                refine a_ls (ls' := [some _, some _, some _, some _, some _, none, none, none, none]) ⟨rfl, rfl, rfl, rfl, rfl, trivial⟩ ?_
                exact ih (i + 1) _ _ _ _ (by omega) (by omega) (by omega) (by first | (rw [hM]; exact hb) | rw [hM]) (by first | (rw [hM]; exact hf1) | (rw [if_neg (show ¬ e = 0 by omega)]; rw [if_neg (show ¬ e = 0 by omega)] at hf1; exact hf1) | rw [if_pos c_189, hM]) hm5
              · have hM := tf_bet (f := f) c_119 (bet_t c_167 (by rw [← hb]; omega))
                refine a_goto (pc := 176) (tgt := 185) dX8_outcome_176 (by decide) ?_
                refine a_iload_7 (pc := 185) dX8_outcome_185 ?_
                refine a_istoren_3 (pc := 187) dX8_outcome_187 (by decide) (by first | rfl | trivial) ?_
                refine a_iloadn_1 (pc := 188) dX8_outcome_188 ?_
                refine n_if_ne (tgt := 198) dX8_outcome_189 (by decide) (by omega) (fun c_189 => ?_) (fun c_189 => ?_)
                · refine a_iinc_4 (pc := 198) (v := nI (i + 1)) dX8_outcome_198 (nI_add _ _) (by decide) (by first | rfl | trivial) ?_
                  refine a_goto (pc := 201) (tgt := 77) dX8_outcome_201 (by decide) ?_
                  refine a_ls (ls' := [some _, some _, some _, some _, some _, none, none, none, none]) ⟨rfl, rfl, rfl, rfl, rfl, trivial⟩ ?_
                  exact ih (i + 1) _ _ _ _ (by omega) (by omega) (by omega) (by first | (rw [hM]; exact hb) | rw [hM]) (by first | (rw [hM]; exact hf1) | (rw [if_neg (show ¬ e = 0 by omega)]; rw [if_neg (show ¬ e = 0 by omega)] at hf1; exact hf1) | rw [if_pos c_189, hM]) hm5
                · refine a_aloadn_0 (pc := 192) dX8_outcome_192 ?_
                  refine a_iload_4 (pc := 193) dX8_outcome_193 ?_
                  refine pf_X8_44 (pc := 195) rfl dX8_outcome_195 hm5.ob4 ?_
                  have hm6 := hm5.so (s' := (rs, m, t, i))
                  refine a_iinc_4 (pc := 198) (v := nI (i + 1)) dX8_outcome_198 (nI_add _ _) (by decide) (by first | rfl | trivial) ?_
                  refine a_goto (pc := 201) (tgt := 77) dX8_outcome_201 (by decide) ?_
                  refine a_ls (ls' := [some _, some _, some _, some _, some _, none, none, none, none]) ⟨rfl, rfl, rfl, rfl, rfl, trivial⟩ ?_
                  exact ih (i + 1) _ _ _ _ (by omega) (by omega) (by omega) (by first | (rw [hM]; exact hb) | rw [hM]) (by first | (rw [hM]; exact hf1) | (rw [if_neg (show ¬ e = 0 by omega)]; rw [if_neg (show ¬ e = 0 by omega)] at hf1; exact hf1) | rw [if_pos c_189, hM]) hm6
          · have hM := tf_skip (f := f) c_119
            refine a_goto (pc := 122) (tgt := 198) dX8_outcome_122 (by decide) ?_
            refine a_iinc_4 (pc := 198) (v := nI (i + 1)) dX8_outcome_198 (nI_add _ _) (by decide) (by first | rfl | trivial) ?_
            refine a_goto (pc := 201) (tgt := 77) dX8_outcome_201 (by decide) ?_
            refine a_ls (ls' := [some _, some _, some _, some _, some _, none, none, none]) ⟨rfl, rfl, rfl, rfl, rfl, trivial⟩ ?_
            exact ih (i + 1) _ _ _ _ (by omega) (by omega) (by omega) (by first | (rw [hM]; exact hb) | rw [hM]) (by first | (rw [hM]; exact hf1) | (rw [if_neg (show ¬ e = 0 by omega)]; rw [if_neg (show ¬ e = 0 by omega)] at hf1; exact hf1) | rw [if_pos c_189, hM]) hm1
    refine AM.of [some (.ref (gB G + 48)), some (.int (nI (e))), none, none, none, none, none, none] pnX8 (Nat.le_of_ble_eq_true rfl) (by simp [lsub, lvI, Value.category]) ?_
    refine a_iloadn_1 (pc := 0) dX8_outcome_0 ?_
    refine a_aloadn_0 (pc := 1) dX8_outcome_1 ?_
    refine gf_X8_38 (pc := 2) rfl dX8_outcome_2 hm.ob4 ?_
    refine n_icmp_lt (tgt := 54) dX8_outcome_5 (by decide) (by omega) (by omega) (fun c_5 => ?_) (fun c_5 => by omega)
    refine a_iloadn_1 (pc := 54) dX8_outcome_54 ?_
    refine a_iconst (pc := 55) (v := nI 2) dX8_outcome_55 (by decide) ?_
    refine n_irem dX8_outcome_56 (by omega) (by decide) (by decide) ?_
    refine n_if_ne (tgt := 64) dX8_outcome_57 (by decide) (by omega) (fun c_57 => ?_) (fun c_57 => ?_)
    · refine a_iconst (pc := 64) (v := nI 0) dX8_outcome_64 (by decide) ?_
      refine a_topi (bI g) (by rw [hg, decide_eq_false (show ¬ e % 2 = 0 by omega)]; rfl) ?_
      refine a_istoren_2 (pc := 65) dX8_outcome_65 (by decide) (by first | rfl | trivial) ?_
      refine a_aloadn_0 (pc := 66) dX8_outcome_66 ?_
      refine a_iloadn_1 (pc := 67) dX8_outcome_67 ?_
      refine a_iconst (pc := 68) (v := nI 1) dX8_outcome_68 (by decide) ?_
      refine n_iadd dX8_outcome_69 ?_
      refine cv_X8_51 (pc := 70) rfl dX8_outcome_70 hm.ob4 (Nat.le_of_ble_eq_true rfl) ?_
      refine IH (by omega) hm (by omega) (fun h1 z1 hm1 => ?_)
      have f36_1 := f36 x
      refine a_istoren_3 (pc := 73) dX8_outcome_73 (by decide) (by first | rfl | trivial) ?_
      refine a_iconst (pc := 74) (v := nI 0) dX8_outcome_74 (by decide) ?_
      refine a_istore_4 (pc := 75) dX8_outcome_75 (by decide) (by first | rfl | trivial) ?_
      exact lp 7 0 _ _ _ _ (by omega) (by omega) hfx rfl (by split <;> first | (rename_i q; exact h6 q) | rfl) hm1
    · refine a_iconst (pc := 60) (v := nI 1) dX8_outcome_60 (by decide) ?_
      refine a_goto (pc := 61) (tgt := 65) dX8_outcome_61 (by decide) ?_
      refine a_topi (bI g) (by rw [hg, decide_eq_true c_57]; rfl) ?_
      refine a_istoren_2 (pc := 65) dX8_outcome_65 (by decide) (by first | rfl | trivial) ?_
      refine a_aloadn_0 (pc := 66) dX8_outcome_66 ?_
      refine a_iloadn_1 (pc := 67) dX8_outcome_67 ?_
      refine a_iconst (pc := 68) (v := nI 1) dX8_outcome_68 (by decide) ?_
      refine n_iadd dX8_outcome_69 ?_
      refine cv_X8_51 (pc := 70) rfl dX8_outcome_70 hm.ob4 (Nat.le_of_ble_eq_true rfl) ?_
      refine IH (by omega) hm (by omega) (fun h1 z1 hm1 => ?_)
      have f36_1 := f36 x
      refine a_istoren_3 (pc := 73) dX8_outcome_73 (by decide) (by first | rfl | trivial) ?_
      refine a_iconst (pc := 74) (v := nI 0) dX8_outcome_74 (by decide) ?_
      refine a_istore_4 (pc := 75) dX8_outcome_75 (by decide) (by first | rfl | trivial) ?_
      exact lp 7 0 _ _ _ _ (by omega) (by omega) hfx rfl (by split <;> first | (rename_i q; exact h6 q) | rfl) hm1
set_option maxRecDepth 100000 in
set_option maxHeartbeats 4000000 in
theorem t_play {G : Cx} {d : Nat} {h h0 : List va_E} {v x z : Cv} {F : Lf} {s : Tn} {Q : Option Value → List va_E → Prop} (hd : 13 ≤ d) (hz : gz G = false) (hm : BQ G h0 h v x z F s) {y n t : Nat} (hy : y < 6) (hn : n ≤ 100) (ht : t < 1000) (k : ∀ h1 x1 z1, BQ G h0 h1 v x1 z1 F (6 * y, min n 3, t, fxT F (6 * y) t (min n 3) 0 v 6) → Q (some (.int (nI (outT F (6 * y) t (min n 3) true v)))) h1) : AM G yX8_play cX8_play 4 (some .int) d 0 0 [.ref (gB G + 48), .int (nI (y)), .int (nI (n)), .int (nI (t))] h Q := by
  obtain ⟨d, rfl, he⟩ := dpos hd
  refine AM.of [some (.ref (gB G + 48)), some (.int (nI (y))), some (.int (nI (n))), some (.int (nI (t)))] pnX8 (Nat.le_of_ble_eq_true rfl) (by simp [lsub, lvI, Value.category]) ?_
  refine a_aloadn_0 (pc := 0) dX8_play_0 ?_
  refine a_bipush (pc := 1) (v := nI 6) dX8_play_1 (by decide) ?_
  refine a_iloadn_1 (pc := 3) dX8_play_3 ?_
  refine n_imul dX8_play_4 ?_
  refine pf_X8_28 (pc := 5) rfl dX8_play_5 hm.ob ?_
  have hm1 := hm.so (s' := (6 * y, s.2.1, s.2.2.1, s.2.2.2))
  refine a_aloadn_0 (pc := 8) dX8_play_8 ?_
  refine a_iloadn_2 (pc := 9) dX8_play_9 ?_
  refine a_iconst (pc := 10) (v := nI 3) dX8_play_10 (by decide) ?_
  refine a_mminR (pc := 11) dX8_play_11 w_798 (Nat.le_of_ble_eq_true rfl) ?_
  refine a_topi (nI (min n 3)) (mmin_nI (by omega) (by decide)) ?_
  refine pf_X8_38 (pc := 14) rfl dX8_play_14 hm1.ob4 ?_
  have hm2 := hm1.so (s' := (6 * y, min n 3, s.2.2.1, s.2.2.2))
  refine a_aloadn_0 (pc := 17) dX8_play_17 ?_
  refine a_iloadn_3 (pc := 18) dX8_play_18 ?_
  refine pf_X8_41 (pc := 19) rfl dX8_play_19 hm2.ob4 ?_
  have hm3 := hm2.so (s' := (6 * y, min n 3, t, s.2.2.2))
  refine a_aloadn_0 (pc := 22) dX8_play_22 ?_
  refine a_bipush (pc := 23) (v := nI 6) dX8_play_23 (by decide) ?_
  refine pf_X8_44 (pc := 25) rfl dX8_play_25 hm3.ob4 ?_
  have hm4 := hm3.so (s' := (6 * y, min n 3, t, 6))
  refine a_aloadn_0 (pc := 28) dX8_play_28 ?_
  refine gf_X8_12 (pc := 29) rfl dX8_play_29 hm4.ob4 ?_
  refine a_aloadn_0 (pc := 32) dX8_play_32 ?_
  refine gf_X8_21 (pc := 33) rfl dX8_play_33 hm4.ob4 ?_
  refine cv_X8_47 (pc := 36) rfl dX8_play_36 hm4.c49.choose_spec (Nat.le_of_ble_eq_true rfl) ?_
  refine t_copyB (by omega) hz hm4 (fun h5 hm5 => ?_)
  refine a_aloadn_0 (pc := 39) dX8_play_39 ?_
  refine a_iconst (pc := 40) (v := nI 0) dX8_play_40 (by decide) ?_
  refine cv_X8_51 (pc := 41) rfl dX8_play_41 hm5.ob4 (Nat.le_of_ble_eq_true rfl) ?_
  refine t_outcome hz (min n 3) (by omega) hm5 (by omega) (by omega) (by omega) (by omega) (by omega) (fun _ => rfl) (fun h6 z6 hm6 => ?_)
  exact a_iret (pc := 44) dX8_play_44 rfl (zf hz) (k _ _ _ hm6)
