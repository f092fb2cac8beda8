/-! TURNS (48): its board (49) and the city behind the hours (52), laid on now (1) -/
theorem pnX8 : plainName RX8 = true := by decide
abbrev Tn : Type := Nat × Nat × Nat × Nat
abbrev unob (G : Cx) (s : Tn) : va_E := .inr (8, [.ref (gB G + 1), .ref (gB G + 7), .ref (gB G + 49), .ref (gB G + 52), .int (nI s.1), .int (nI s.2.1), .int (nI s.2.2.1), .int (nI s.2.2.2)])
def BQ (G : Cx) (h0 h : List va_E) (v x z : Cv) (F : Lf) (s : Tn) : Prop := FR 48 54 h0 h ∧ cityAt G h 1 v ∧ LawOK G h F ∧ h[48]? = some (unob G s) ∧ (∃ u, cityAt G h 49 u ∧ SC u x) ∧ ∃ u, cityAt G h 52 u ∧ SC u z
theorem LawOK_cell {G : Cx} {h : List va_E} {F : Lf} {k : Nat} {e : va_E} (hk : 24 < k ∨ k < 7) (H : LawOK G h F) : LawOK G (h.set k e) F := by
  obtain ⟨t, rd, x, vf, m, y, L⟩ := H
  have L1 : t = 8 ∨ t = 18 := L.1
  exact ⟨t, rd, x, vf, m, y, L.out (fun j hj => hs_ne (by omega) rfl)⟩
section BQs
variable {G : Cx} {h0 h : List va_E} {v x z : Cv} {F : Lf} {s : Tn} {d : Nat} {Q : Option Value → List va_E → Prop}
theorem BQ.ob (H : BQ G h0 h v x z F s) : h[48]? = some (unob G s) := H.2.2.2.1
theorem BQ.now (H : BQ G h0 h v x z F s) : cityAt G h 1 v := H.2.1
theorem BQ.ok (H : BQ G h0 h v x z F s) : okC v := H.2.1.2.2.2
theorem BQ.okx (H : BQ G h0 h v x z F s) (r : Nat) : cW x r ≤ 99 := by
  obtain ⟨_, _, _, _, ⟨u, hu, hs⟩, _⟩ := H
  rw [← hs.1]; exact hu.2.2.2.1 r
theorem BQ.c49 (H : BQ G h0 h v x z F s) : ∃ fs, h[49]? = some (.inr (0, fs)) := by
  obtain ⟨_, _, _, _, ⟨u, hu, _⟩, _⟩ := H
  exact ⟨_, hu.1⟩
theorem BQ.c52 (H : BQ G h0 h v x z F s) : ∃ fs, h[52]? = some (.inr (0, fs)) := by
  obtain ⟨_, _, _, _, _, u, hu, _⟩ := H
  exact ⟨_, hu.1⟩
theorem BQ.put1 {u u' x' : Cv} (H : BQ G h0 h v x z F s) (hc : cityAt G h 49 u) (ok : okC u') (hs : SC u' x') : BQ G h0 (putC G h 49 u') v x' z F s := by
  obtain ⟨a1, a2, a3, a4, -, w, hw, hz⟩ := H
  exact ⟨a1.trans (FR.hx HX.put (by omega)), putC_far (by omega) a2, LawOK_put (by omega) a3, (putC_out (by omega)).trans a4, ⟨u', putC_at hc ok, hs⟩, w, putC_far (by omega) hw, hz⟩
theorem BQ.put2 {u u' z' : Cv} (H : BQ G h0 h v x z F s) (hc : cityAt G h 52 u) (ok : okC u') (hs : SC u' z') : BQ G h0 (putC G h 52 u') v x z' F s := by
  obtain ⟨a1, a2, a3, a4, ⟨w, hw, hz⟩, -⟩ := H
  exact ⟨a1.trans (FR.hx HX.put (by omega)), putC_far (by omega) a2, LawOK_put (by omega) a3, (putC_out (by omega)).trans a4, ⟨w, putC_far (by omega) hw, hz⟩, u', putC_at hc ok, hs⟩
theorem BQ.so {s' : Tn} (H : BQ G h0 h v x z F s) : BQ G h0 (h.set 48 (unob G s')) v x z F s' := by
  obtain ⟨a1, a2, a3, a4, ⟨w, hw, hx⟩, u, hu, hz⟩ := H
  exact ⟨a1.trans (FR.set (by omega)), ⟨hs_ne (by omega) a2.1, hs_ne (by omega) a2.2.1, hs_ne (by omega) a2.2.2.1, a2.2.2.2⟩, LawOK_cell (by omega) a3, hs_eq a4, ⟨w, ⟨hs_ne (by omega) hw.1, hs_ne (by omega) hw.2.1, hs_ne (by omega) hw.2.2.1, hw.2.2.2⟩, hx⟩, u, ⟨hs_ne (by omega) hu.1, hs_ne (by omega) hu.2.1, hs_ne (by omega) hu.2.2.1, hu.2.2.2⟩, hz⟩
theorem t_copyB (hd : 2 ≤ d) (hz : gz G = false) (H : BQ G h0 h v x z F s) (k : ∀ h1, BQ G h0 h1 v v z F s → Q none h1) : AM G yX0_copy cX0_copy 2 none d 0 0 [.ref (gB G + 49), .ref (gB G + 1)] h Q := by
  obtain ⟨u, hu, hs⟩ := H.2.2.2.2.1
  exact x_copy hd hz hu H.now (by omega) (k _ (H.put1 hu (okC_copy hu.2.2.2 H.ok) ⟨rfl, rfl, rfl, rfl, rfl⟩))
theorem t_copyT (hd : 2 ≤ d) (hz : gz G = false) (H : BQ G h0 h v x z F s) (k : ∀ h1, BQ G h0 h1 v x x F s → Q none h1) : AM G yX0_copy cX0_copy 2 none d 0 0 [.ref (gB G + 52), .ref (gB G + 49)] h Q := by
  obtain ⟨u, hu, hs⟩ := H.2.2.2.2.1
  obtain ⟨w, hw, hs2⟩ := H.2.2.2.2.2
  exact x_copy hd hz hw hu (by omega) (k _ (H.put2 hw (okC_copy hw.2.2.2 hu.2.2.2) ⟨hs.1, hs.2.1, hs.2.2.1, hs.2.2.2.1, hs.2.2.2.2⟩))
theorem t_setWax {r w : Nat} (hd : 2 ≤ d) (hz : gz G = false) (H : BQ G h0 h v x z F s) (hr : r < 36) (hw : w ≤ 99) (k : ∀ h1, BQ G h0 h1 v (csW x r w) z F s → Q none h1) : AM G yX0_setWax cX0_setWax 3 none d 0 0 [.ref (gB G + 49), .int (nI r), .int (nI w)] h Q := by
  obtain ⟨u, hu, hs⟩ := H.2.2.2.2.1
  exact x_setWax hd hz hu hr hw (k _ (H.put1 hu (okC_W hu.2.2.2 hr hw) (SC_W hs r w)))
theorem t_hour (hd : 5 ≤ d) (hz : gz G = false) (H : BQ G h0 h v x z F s) (k : ∀ h1, BQ G h0 h1 v x (chour F z) F s → Q none h1) : AM G yX0_passHour cX0_passHour 7 none d 0 0 [.ref (gB G + 52), .ref (gB G + 7)] h Q := by
  obtain ⟨a1, a2, a3, a4, ⟨w, hw, hs2⟩, u, hu, hs⟩ := H
  refine y_passHour hd hz (h0 := h) (v := u) (F := F) ⟨by omega, HX.rfl' 52 h, hu, a3⟩ (fun h1 H1 => k h1 ?_)
  obtain ⟨-, b1, b2, b3⟩ := H1
  exact ⟨a1.trans (FR.hx b1 (by omega)), cityX (by omega) (by omega) a2 b1, b3, (b1.2.1 48 (by omega) (by omega) (by omega) (by omega)).trans a4, ⟨w, cityX (by omega) (by omega) hw b1, hs2⟩, _, b2, by rw [chour_SC hs]; exact SC.refl _⟩
theorem t_isDark {r : Nat} (hd : 1 ≤ d) (hz : gz G = false) (H : BQ G h0 h v x z F s) (hr : r < 36) (k : Q (some (.int (bI (cK x r)))) h) : AM G yX0_isDark cX0_isDark 2 (some .boolean) d 0 0 [.ref (gB G + 49), .int (nI r)] h Q := by
  obtain ⟨u, hu, hs⟩ := H.2.2.2.2.1
  exact x_isDark hd hz hu hr (by rw [hs.2.2.1]; exact k)
theorem t_darkCount (hd : 2 ≤ d) (hz : gz G = false) (H : BQ G h0 h v x z F s) (k : Q (some (.int (nI (ctn (cK z) 36)))) h) : AM G yX0_darkCount cX0_darkCount 1 (some .int) d 0 0 [.ref (gB G + 52)] h Q := by
  obtain ⟨u, hu, hs⟩ := H.2.2.2.2.2
  exact x_darkCount hd hz hu (by rw [hs.2.2.1]; exact k)
end BQs
section BQr
variable {G : Cx} {y : MethodName} {cc : ByteArray} {mL : Nat} {rt : Option FieldType} {R : Room} {Z : List Frame → Array Value → State → State → Prop} {cn sn pc : Nat} {ls : List (Option Value)} {st : List Value} {h h0 : List va_E} {v x z : Cv} {F : Lf} {s : Tn}
theorem tg_wax (H : BQ G h0 h v x z F s) (ho : y.cls = RX8) (hd : decode cc pc = .ok (.getfield 63, 3)) (kk : AW G y cc mL rt R Z cn sn (pc + 3) ls (.ref (gB G + 50) :: st) h) : AW G y cc mL rt R Z cn sn pc ls (.ref (gB G + 49) :: st) h := by
  obtain ⟨u, hu, hs⟩ := H.2.2.2.2.1
  exact gf_X8_63 ho hd hu.1 kk
theorem tl_wax {j : Nat} (H : BQ G h0 h v x z F s) (hd : decode cc pc = .ok (.iaload, 1)) (hj : j < 36) (kk : AW G y cc mL rt R Z cn sn (pc + 1) ls (.int (nI (cW x j)) :: st) h) : AW G y cc mL rt R Z cn sn pc ls (.int (nI j) :: .ref (gB G + 50) :: st) h := by
  obtain ⟨u, hu, hs⟩ := H.2.2.2.2.1
  exact b_iald j hd hu.2.1 rfl hj (by decide) (by rw [hs.1]; exact kk)
end BQr
/-- what the wax is behind a deed -/
def hasB (g : Bool) (v : Cv) (r : Nat) : Nat := if g then (if cK v r then cW v r else min 99 (cW v r + 12)) else 0
def betB (g : Bool) (a b : Nat) : Bool := if g then decide (a < b) else decide (b < a)
def tfold (f : Cv → Nat) (g : Bool) (rs : Nat) (v : Cv) : Nat → Nat × Nat
  | 0 => (f v, 6)
  | k + 1 => if hasB g v (rs + k) = cW v (rs + k) then tfold f g rs v k else if betB g (f (csW v (rs + k) (hasB g v (rs + k)))) (tfold f g rs v k).1 = true then (f (csW v (rs + k) (hasB g v (rs + k))), k) else tfold f g rs v k
/-- the outcome with j deeds to come -/
def outT (F : Lf) (rs t : Nat) : Nat → Bool → Cv → Nat
  | 0, _, v => ctn (cK (hrs F t v)) 36
  | j + 1, g, v => (tfold (outT F rs t j (!g)) g rs v 6).1
theorem csW_back (v : Cv) (r a : Nat) : csW (csW v r a) r (cW v r) = v := by
  obtain ⟨W, Z⟩ := v
  show (va_up (va_up W r a) r (W r), Z) = (W, Z)
  have : va_up (va_up W r a) r (W r) = W := by
    funext i
    unfold va_up
    by_cases e : i = r
    · rw [if_pos e, e]
    · rw [if_neg e, if_neg e]
  rw [this]
theorem tfold_le {f : Cv → Nat} {g : Bool} {rs : Nat} {v : Cv} (h : ∀ u, f u ≤ 36) : ∀ k, (tfold f g rs v k).1 ≤ 36 ∧ (tfold f g rs v k).2 ≤ 6 + k
  | 0 => ⟨h v, Nat.le_refl _⟩
  | k + 1 => by
    have ih := tfold_le (g := g) (rs := rs) (v := v) h k
    rw [tfold]
    split
    · exact ⟨ih.1, by omega⟩
    · split
      · exact ⟨h _, by show k ≤ _; omega⟩
      · exact ⟨ih.1, by omega⟩
theorem outT_le {F : Lf} {rs t : Nat} : ∀ j g v, outT F rs t j g v ≤ 36
  | 0, _, _ => ctn_le _ _
  | j + 1, g, v => (tfold_le (fun u => outT_le j (!g) u) 6).1
set_option maxRecDepth 100000 in
set_option maxHeartbeats 4000000 in
theorem t_waxBehind {G : Cx} {d : Nat} {h h0 : List va_E} {v x z : Cv} {F : Lf} {s : Tn} {Q : Option Value → List va_E → Prop} (hd : 2 ≤ d) (hz : gz G = false) (hm : BQ G h0 h v x z F s) {r : Nat} {g : Bool} (hr : r < 36) (k : Q (some (.int (nI (hasB g x r)))) h) : AM G yX8_waxBehind cX8_waxBehind 3 (some .int) d 0 0 [.ref (gB G + 48), .int (nI (r)), .int (bI (g))] h Q := by
  obtain ⟨d, rfl, he⟩ := dpos hd
  refine AM.of [some (.ref (gB G + 48)), some (.int (nI (r))), some (.int (bI (g)))] pnX8 (Nat.le_of_ble_eq_true rfl) (by simp [lsub, lvI, Value.category]) ?_
  refine a_iloadn_2 (pc := 0) dX8_waxBehind_0 ?_
  refine b_if_ne (pc := 1) (tgt := 6) dX8_waxBehind_1 (by decide) (fun c_1 => ?_) (fun c_1 => ?_)
  · refine a_aloadn_0 (pc := 6) dX8_waxBehind_6 ?_
    have w99 := hm.okx r
    refine gf_X8_12 (pc := 7) rfl dX8_waxBehind_7 hm.ob ?_
    refine a_iloadn_1 (pc := 10) dX8_waxBehind_10 ?_
    refine cv_X8_75 (pc := 11) rfl dX8_waxBehind_11 hm.c49.choose_spec (Nat.le_of_ble_eq_true rfl) ?_
    refine t_isDark (by omega) hz hm (by omega) ?_
    refine b_if_eq (pc := 14) (tgt := 29) dX8_waxBehind_14 (by decide) (fun c_14 => ?_) (fun c_14 => ?_)
    · refine a_bipush (pc := 29) (v := nI 99) dX8_waxBehind_29 (by decide) ?_
      refine a_aloadn_0 (pc := 31) dX8_waxBehind_31 ?_
      refine gf_X8_12 (pc := 32) rfl dX8_waxBehind_32 hm.ob ?_
      refine tg_wax hm rfl dX8_waxBehind_35 ?_
      refine a_iloadn_1 (pc := 38) dX8_waxBehind_38 ?_
      refine tl_wax hm dX8_waxBehind_39 (by omega) ?_
      refine a_bipush (pc := 40) (v := nI 12) dX8_waxBehind_40 (by decide) ?_
      refine n_iadd dX8_waxBehind_42 ?_
      refine a_mminR (pc := 43) dX8_waxBehind_43 w_798 (Nat.le_of_ble_eq_true rfl) ?_
      refine a_topi (nI (min 99 (cW x r + 12))) (mmin_nI (by decide) (by omega)) ?_
      exact a_iret (pc := 46) dX8_waxBehind_46 rfl (zf hz) (by rw [show hasB g x r = min 99 (cW x r + 12) by rw [hasB, c_1, c_14]; rfl] at k; exact k)
    · refine a_aloadn_0 (pc := 17) dX8_waxBehind_17 ?_
      refine gf_X8_12 (pc := 18) rfl dX8_waxBehind_18 hm.ob ?_
      refine tg_wax hm rfl dX8_waxBehind_21 ?_
      refine a_iloadn_1 (pc := 24) dX8_waxBehind_24 ?_
      refine tl_wax hm dX8_waxBehind_25 (by omega) ?_
      refine a_goto (pc := 26) (tgt := 46) dX8_waxBehind_26 (by decide) ?_
      exact a_iret (pc := 46) dX8_waxBehind_46 rfl (zf hz) (by rw [show hasB g x r = cW x r by rw [hasB, c_1, c_14]; rfl] at k; exact k)
  · refine a_iconst (pc := 4) (v := nI 0) dX8_waxBehind_4 (by decide) ?_
    exact a_iret (pc := 5) dX8_waxBehind_5 rfl (zf hz) (by rw [show hasB g x r = 0 by rw [hasB, c_1]; rfl] at k; exact k)
