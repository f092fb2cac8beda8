/-! WALK (29): behind[] (30), steps (31), best (32), its cities 33, 36 .. 45, laid on now (1) -/
theorem pnX9 : plainName RX9 = true := by decide
abbrev Wk : Type := (Nat → Nat) × (Nat → Nat) × Nat
abbrev wkob (G : Cx) (s : Wk) : va_E := .inr (9, [.ref (gB G + 1), .ref (gB G + 7), .ref (gB G + 30), .ref (gB G + 31), .ref (gB G + 32), .int (nI s.2.2)])
def WQ (G : Cx) (h0 h : List va_E) (v : Cv) (X : Nat → Cv) (F : Lf) (s : Wk) : Prop := FR 29 47 h0 h ∧ cityAt G h 1 v ∧ LawOK G h F ∧ h[29]? = some (wkob G s) ∧ h[30]? = some (.inl (gc G 3, 5, .inr (.inr (.inr (.inr (fun j => some (gB G + (33 + 3 * j)))))))) ∧ h[31]? = some (ints G 4 s.1) ∧ h[32]? = some (ints G 4 s.2.1) ∧ ∀ i, i < 5 → ∃ u, cityAt G h (33 + 3 * i) u ∧ SC u (X i)
abbrev upX (X : Nat → Cv) (i : Nat) (x : Cv) : Nat → Cv := fun j => if j = i then x else X j
section WQs
variable {G : Cx} {h0 h : List va_E} {v : Cv} {X : Nat → Cv} {F : Lf} {s : Wk} {d : Nat} {Q : Option Value → List va_E → Prop}
theorem WQ.ob (H : WQ G h0 h v X F s) : h[29]? = some (wkob G s) := H.2.2.2.1
theorem WQ.ok (H : WQ G h0 h v X F s) : okC v := H.2.1.2.2.2
theorem WQ.cX (H : WQ G h0 h v X F s) {i : Nat} (hi : i < 5) : ∃ fs, h[33 + 3 * i]? = some (.inr (0, fs)) := by
  obtain ⟨u, hu, _⟩ := H.2.2.2.2.2.2.2 i hi
  exact ⟨_, hu.1⟩
theorem cityAt_of {G : Cx} {h h1 : List va_E} {a : Nat} {u : Cv} (e : ∀ k, a ≤ k ∧ k ≤ a + 2 → h1[k]? = h[k]?) (H : cityAt G h a u) : cityAt G h1 a u := ⟨(e a (by omega)).trans H.1, (e _ (by omega)).trans H.2.1, (e _ (by omega)).trans H.2.2.1, H.2.2.2⟩
theorem WQ.put {i : Nat} {u u' x' : Cv} (hi : i < 5) (H : WQ G h0 h v X F s) (hc : cityAt G h (33 + 3 * i) u) (ok : okC u') (hs : SC u' x') : WQ G h0 (putC G h (33 + 3 * i) u') v (upX X i x') F s := by
  obtain ⟨a1, a2, a3, a4, a5, a6, a7, a8⟩ := H
  refine ⟨a1.trans (FR.hx HX.put (by omega)), putC_far (by omega) a2, LawOK_put (by omega) a3, (putC_out (by omega)).trans a4, (putC_out (by omega)).trans a5, (putC_out (by omega)).trans a6, (putC_out (by omega)).trans a7, fun j hj => ?_⟩
  show ∃ u, cityAt G _ (33 + 3 * j) u ∧ SC u (if j = i then x' else X j)
  by_cases e : j = i
  · subst e
    rw [if_pos rfl]
    exact ⟨u', putC_at hc ok, hs⟩
  · rw [if_neg e]
    obtain ⟨w, hw, hx⟩ := a8 j hj
    exact ⟨w, putC_far (by omega) hw, hx⟩
theorem WQ.cell {k : Nat} {e : va_E} {s' : Wk} (H : WQ G h0 h v X F s) (hk : k = 29 ∨ k = 31 ∨ k = 32) (b1 : (h.set k e)[29]? = some (wkob G s')) (b2 : (h.set k e)[31]? = some (ints G 4 s'.1)) (b3 : (h.set k e)[32]? = some (ints G 4 s'.2.1)) : WQ G h0 (h.set k e) v X F s' := by
  obtain ⟨a1, a2, a3, a4, a5, a6, a7, a8⟩ := H
  refine ⟨a1.trans (FR.set (by omega)), cityAt_of (fun j hj => hs_ne (by omega) rfl) a2, LawOK_cell (by omega) a3, b1, hs_ne (by omega) a5, b2, b3, fun j hj => ?_⟩
  obtain ⟨w, hw, hx⟩ := a8 j hj
  exact ⟨w, cityAt_of (fun k1 hk1 => hs_ne (by omega) rfl) hw, hx⟩
theorem w_copy0 (hd : 2 ≤ d) (hz : gz G = false) (H : WQ G h0 h v X F s) (k : ∀ h1, WQ G h0 h1 v (upX X 0 v) F s → Q none h1) : AM G yX0_copy cX0_copy 2 none d 0 0 [.ref (gB G + 33), .ref (gB G + 1)] h Q := by
  obtain ⟨u, hu, hs⟩ := H.2.2.2.2.2.2.2 0 (by decide)
  exact x_copy hd hz hu H.2.1 (by omega) (k _ (H.put (i := 0) (by decide) hu (okC_copy hu.2.2.2 H.ok) ⟨rfl, rfl, rfl, rfl, rfl⟩))
theorem w_copy {i : Nat} (hi : i < 4) (hd : 2 ≤ d) (hz : gz G = false) (H : WQ G h0 h v X F s) (k : ∀ h1, WQ G h0 h1 v (upX X (i + 1) (X i)) F s → Q none h1) : AM G yX0_copy cX0_copy 2 none d 0 0 [.ref (gB G + (33 + 3 * (i + 1))), .ref (gB G + (33 + 3 * i))] h Q := by
  obtain ⟨u, hu, hs⟩ := H.2.2.2.2.2.2.2 (i + 1) (by omega)
  obtain ⟨w, hw, hs2⟩ := H.2.2.2.2.2.2.2 i (by omega)
  exact x_copy hd hz hu hw (by omega) (k _ (H.put (i := i + 1) (by omega) hu (okC_copy hu.2.2.2 hw.2.2.2) ⟨hs2.1, hs2.2.1, hs2.2.2.1, hs2.2.2.2.1, hs2.2.2.2.2⟩))
theorem w_setWax {i r w : Nat} (hi : i < 5) (hd : 2 ≤ d) (hz : gz G = false) (H : WQ G h0 h v X F s) (hr : r < 36) (hw : w ≤ 99) (k : ∀ h1, WQ G h0 h1 v (upX X i (csW (X i) r w)) F s → Q none h1) : AM G yX0_setWax cX0_setWax 3 none d 0 0 [.ref (gB G + (33 + 3 * i)), .int (nI r), .int (nI w)] h Q := by
  obtain ⟨u, hu, hs⟩ := H.2.2.2.2.2.2.2 i hi
  exact x_setWax hd hz hu hr hw (k _ (H.put hi hu (okC_W hu.2.2.2 hr hw) (SC_W hs r w)))
theorem w_hour {i : Nat} (hi : i < 5) (hd : 5 ≤ d) (hz : gz G = false) (H : WQ G h0 h v X F s) (k : ∀ h1, WQ G h0 h1 v (upX X i (chour F (X i))) F s → Q none h1) : AM G yX0_passHour cX0_passHour 7 none d 0 0 [.ref (gB G + (33 + 3 * i)), .ref (gB G + 7)] h Q := by
  obtain ⟨a1, a2, a3, a4, a5, a6, a7, a8⟩ := H
  obtain ⟨u, hu, hs⟩ := a8 i hi
  refine y_passHour hd hz (h0 := h) (v := u) (F := F) ⟨by omega, HX.rfl' _ h, hu, a3⟩ (fun h1 H1 => k h1 ?_)
  obtain ⟨-, b1, b2, b3⟩ := H1
  refine ⟨a1.trans (FR.hx b1 (by omega)), cityX (by omega) (by omega) a2 b1, b3, (b1.2.1 29 (by omega) (by omega) (by omega) (by omega)).trans a4, (b1.2.1 30 (by omega) (by omega) (by omega) (by omega)).trans a5, (b1.2.1 31 (by omega) (by omega) (by omega) (by omega)).trans a6, (b1.2.1 32 (by omega) (by omega) (by omega) (by omega)).trans a7, fun j hj => ?_⟩
  show ∃ u, cityAt G _ (33 + 3 * j) u ∧ SC u (if j = i then chour F (X i) else X j)
  by_cases e : j = i
  · subst e
    rw [if_pos rfl]
    exact ⟨_, b2, by rw [chour_SC hs]; exact SC.refl _⟩
  · rw [if_neg e]
    obtain ⟨w, hw, hx⟩ := a8 j hj
    exact ⟨w, cityX (by omega) (by omega) hw b1, hx⟩
theorem w_isDark {i r : Nat} (hi : i < 5) (hd : 1 ≤ d) (hz : gz G = false) (H : WQ G h0 h v X F s) (hr : r < 36) (k : Q (some (.int (bI (cK (X i) r)))) h) : AM G yX0_isDark cX0_isDark 2 (some .boolean) d 0 0 [.ref (gB G + (33 + 3 * i)), .int (nI r)] h Q := by
  obtain ⟨u, hu, hs⟩ := H.2.2.2.2.2.2.2 i hi
  exact x_isDark hd hz hu hr (by rw [hs.2.2.1]; exact k)
theorem w_darkCount {i : Nat} (hi : i < 5) (hd : 2 ≤ d) (hz : gz G = false) (H : WQ G h0 h v X F s) (k : Q (some (.int (nI (ctn (cK (X i)) 36)))) h) : AM G yX0_darkCount cX0_darkCount 1 (some .int) d 0 0 [.ref (gB G + (33 + 3 * i))] h Q := by
  obtain ⟨u, hu, hs⟩ := H.2.2.2.2.2.2.2 i hi
  exact x_darkCount hd hz hu (by rw [hs.2.2.1]; exact k)
end WQs
/-- beside a room, or the room itself -/
def bes5 (r w : Nat) : Option Nat := if w = 4 then some r else bsd r w
theorem b5_0 (r : Nat) : bes5 r 0 = if r < 6 then none else some (r - 6) := rfl
theorem b5_1 (r : Nat) : bes5 r 1 = if r % 6 = 5 then none else some (r + 1) := rfl
theorem b5_2 (r : Nat) : bes5 r 2 = if r < 30 then some (r + 6) else none := rfl
theorem b5_3 (r : Nat) : bes5 r 3 = if r % 6 = 0 then none else some (r - 1) := rfl
theorem sub6_neg : ∀ i : Fin 6, nI i.val - nI 6 < 0 := by decide
theorem bes5_lt {r w o : Nat} (hr : r < 36) (h : bes5 r w = some o) : o < 36 := by
  unfold bes5 at h
  split at h
  · cases h; exact hr
  · exact bsd_lt hr h
set_option maxRecDepth 100000 in
set_option maxHeartbeats 4000000 in
theorem w_beside0 {G : Cx} {d r : Nat} {h : List va_E} {Q : Option Value → List va_E → Prop} (hd : 1 ≤ d) (hz : gz G = false) (hr : r < 36) (k1 : ∀ o, bes5 r 0 = some o → Q (some (.int (nI o))) h) (k0 : bes5 r 0 = none → ∀ y : Int32, y < 0 → Q (some (.int y)) h) : AM G yX9_beside cX9_beside 3 (some .int) d 0 0 [.int (nI (r)), .int (nI (0))] h Q := by
  obtain ⟨d, rfl, he⟩ := dpos hd
  refine AM.of [some (.int (nI (r))), some (.int (nI (0))), none] pnX9 (Nat.le_of_ble_eq_true rfl) (by simp [lsub, lvI, Value.category]) ?_
  refine a_iloadn_0 (pc := 0) dX9_beside_0 ?_
  refine a_bipush (pc := 1) (v := nI 6) dX9_beside_1 (by decide) ?_
  refine n_irem dX9_beside_3 (by omega) (by decide) (by decide) ?_
  refine a_istoren_2 (pc := 4) dX9_beside_4 (by decide) (by first | rfl | trivial) ?_
  refine a_iloadn_1 (pc := 5) dX9_beside_5 ?_
  refine a_tableIn (pc := 6) (off := 30) (tgt := 36) dX9_beside_6 (by decide) (by decide) (by decide) (by decide) ?_
  refine a_iloadn_0 (pc := 36) dX9_beside_36 ?_
  refine a_bipush (pc := 37) (v := nI 6) dX9_beside_37 (by decide) ?_
  refine a_isub (pc := 39) dX9_beside_39 ?_
  refine a_iret (pc := 40) dX9_beside_40 rfl (zf hz) ?_
  rcases Nat.lt_or_ge r 6 with z | z
  · exact k0 ((b5_0 r).trans (if_pos z)) _ (sub6_neg ⟨r, z⟩)
  · rw [pk_sub z]; exact k1 _ ((b5_0 r).trans (if_neg (by omega)))
set_option maxRecDepth 100000 in
set_option maxHeartbeats 4000000 in
theorem w_beside1 {G : Cx} {d r : Nat} {h : List va_E} {Q : Option Value → List va_E → Prop} (hd : 1 ≤ d) (hz : gz G = false) (hr : r < 36) (k1 : ∀ o, bes5 r 1 = some o → Q (some (.int (nI o))) h) (k0 : bes5 r 1 = none → ∀ y : Int32, y < 0 → Q (some (.int y)) h) : AM G yX9_beside cX9_beside 3 (some .int) d 0 0 [.int (nI (r)), .int (nI (1))] h Q := by
  obtain ⟨d, rfl, he⟩ := dpos hd
  refine AM.of [some (.int (nI (r))), some (.int (nI (1))), none] pnX9 (Nat.le_of_ble_eq_true rfl) (by simp [lsub, lvI, Value.category]) ?_
  refine a_iloadn_0 (pc := 0) dX9_beside_0 ?_
  refine a_bipush (pc := 1) (v := nI 6) dX9_beside_1 (by decide) ?_
  refine n_irem dX9_beside_3 (by omega) (by decide) (by decide) ?_
  refine a_istoren_2 (pc := 4) dX9_beside_4 (by decide) (by first | rfl | trivial) ?_
  refine a_iloadn_1 (pc := 5) dX9_beside_5 ?_
  refine a_tableIn (pc := 6) (off := 35) (tgt := 41) dX9_beside_6 (by decide) (by decide) (by decide) (by decide) ?_
  refine a_iloadn_2 (pc := 41) dX9_beside_41 ?_
  refine a_iconst (pc := 42) (v := nI 5) dX9_beside_42 (by decide) ?_
  refine n_icmp_ge (tgt := 52) dX9_beside_43 (by decide) (by omega) (by decide) (fun c_43 => ?_) (fun c_43 => ?_)
  · refine a_iconst (pc := 52) (v := (-1)) dX9_beside_52 (by decide) ?_
    exact a_iret (pc := 53) dX9_beside_53 rfl (zf hz) (k0 ((b5_1 r).trans (if_pos (by omega))) _ (by decide))
  · refine a_iloadn_0 (pc := 46) dX9_beside_46 ?_
    refine a_iconst (pc := 47) (v := nI 1) dX9_beside_47 (by decide) ?_
    refine n_iadd dX9_beside_48 ?_
    refine a_goto (pc := 49) (tgt := 53) dX9_beside_49 (by decide) ?_
    exact a_iret (pc := 53) dX9_beside_53 rfl (zf hz) (k1 _ ((b5_1 r).trans (if_neg (by omega))))
set_option maxRecDepth 100000 in
set_option maxHeartbeats 4000000 in
theorem w_beside2 {G : Cx} {d r : Nat} {h : List va_E} {Q : Option Value → List va_E → Prop} (hd : 1 ≤ d) (hz : gz G = false) (hr : r < 36) (k1 : ∀ o, bes5 r 2 = some o → Q (some (.int (nI o))) h) (k0 : bes5 r 2 = none → ∀ y : Int32, y < 0 → Q (some (.int y)) h) : AM G yX9_beside cX9_beside 3 (some .int) d 0 0 [.int (nI (r)), .int (nI (2))] h Q := by
  obtain ⟨d, rfl, he⟩ := dpos hd
  refine AM.of [some (.int (nI (r))), some (.int (nI (2))), none] pnX9 (Nat.le_of_ble_eq_true rfl) (by simp [lsub, lvI, Value.category]) ?_
  refine a_iloadn_0 (pc := 0) dX9_beside_0 ?_
  refine a_bipush (pc := 1) (v := nI 6) dX9_beside_1 (by decide) ?_
  refine n_irem dX9_beside_3 (by omega) (by decide) (by decide) ?_
  refine a_istoren_2 (pc := 4) dX9_beside_4 (by decide) (by first | rfl | trivial) ?_
  refine a_iloadn_1 (pc := 5) dX9_beside_5 ?_
  refine a_tableIn (pc := 6) (off := 48) (tgt := 54) dX9_beside_6 (by decide) (by decide) (by decide) (by decide) ?_
  refine a_iloadn_0 (pc := 54) dX9_beside_54 ?_
  refine a_bipush (pc := 55) (v := nI 6) dX9_beside_55 (by decide) ?_
  refine n_iadd dX9_beside_57 ?_
  refine a_bipush (pc := 58) (v := nI 36) dX9_beside_58 (by decide) ?_
  refine n_icmp_ge (tgt := 70) dX9_beside_60 (by decide) (by omega) (by decide) (fun c_60 => ?_) (fun c_60 => ?_)
  · refine a_iconst (pc := 70) (v := (-1)) dX9_beside_70 (by decide) ?_
    exact a_iret (pc := 71) dX9_beside_71 rfl (zf hz) (k0 ((b5_2 r).trans (if_neg (by omega))) _ (by decide))
  · refine a_iloadn_0 (pc := 63) dX9_beside_63 ?_
    refine a_bipush (pc := 64) (v := nI 6) dX9_beside_64 (by decide) ?_
    refine n_iadd dX9_beside_66 ?_
    refine a_goto (pc := 67) (tgt := 71) dX9_beside_67 (by decide) ?_
    exact a_iret (pc := 71) dX9_beside_71 rfl (zf hz) (k1 _ ((b5_2 r).trans (if_pos (by omega))))
set_option maxRecDepth 100000 in
set_option maxHeartbeats 4000000 in
theorem w_beside3 {G : Cx} {d r : Nat} {h : List va_E} {Q : Option Value → List va_E → Prop} (hd : 1 ≤ d) (hz : gz G = false) (hr : r < 36) (k1 : ∀ o, bes5 r 3 = some o → Q (some (.int (nI o))) h) (k0 : bes5 r 3 = none → ∀ y : Int32, y < 0 → Q (some (.int y)) h) : AM G yX9_beside cX9_beside 3 (some .int) d 0 0 [.int (nI (r)), .int (nI (3))] h Q := by
  obtain ⟨d, rfl, he⟩ := dpos hd
  refine AM.of [some (.int (nI (r))), some (.int (nI (3))), none] pnX9 (Nat.le_of_ble_eq_true rfl) (by simp [lsub, lvI, Value.category]) ?_
  refine a_iloadn_0 (pc := 0) dX9_beside_0 ?_
  refine a_bipush (pc := 1) (v := nI 6) dX9_beside_1 (by decide) ?_
  refine n_irem dX9_beside_3 (by omega) (by decide) (by decide) ?_
  refine a_istoren_2 (pc := 4) dX9_beside_4 (by decide) (by first | rfl | trivial) ?_
  refine a_iloadn_1 (pc := 5) dX9_beside_5 ?_
  refine a_tableIn (pc := 6) (off := 66) (tgt := 72) dX9_beside_6 (by decide) (by decide) (by decide) (by decide) ?_
  refine a_iloadn_2 (pc := 72) dX9_beside_72 ?_
  refine n_if_le (tgt := 82) dX9_beside_73 (by decide) (by omega) (fun c_73 => ?_) (fun c_73 => ?_)
  · refine a_iconst (pc := 82) (v := (-1)) dX9_beside_82 (by decide) ?_
    exact a_iret (pc := 83) dX9_beside_83 rfl (zf hz) (k0 ((b5_3 r).trans (if_pos (by omega))) _ (by decide))
  · refine a_iloadn_0 (pc := 76) dX9_beside_76 ?_
    refine a_iconst (pc := 77) (v := nI 1) dX9_beside_77 (by decide) ?_
    refine n_isub dX9_beside_78 (by omega) ?_
    refine a_goto (pc := 79) (tgt := 83) dX9_beside_79 (by decide) ?_
    exact a_iret (pc := 83) dX9_beside_83 rfl (zf hz) (k1 _ ((b5_3 r).trans (if_neg (by omega))))
set_option maxRecDepth 100000 in
set_option maxHeartbeats 4000000 in
theorem w_beside4 {G : Cx} {d r : Nat} {h : List va_E} {Q : Option Value → List va_E → Prop} (hd : 1 ≤ d) (hz : gz G = false) (hr : r < 36) (k1 : ∀ o, bes5 r 4 = some o → Q (some (.int (nI o))) h) (k0 : bes5 r 4 = none → ∀ y : Int32, y < 0 → Q (some (.int y)) h) : AM G yX9_beside cX9_beside 3 (some .int) d 0 0 [.int (nI (r)), .int (nI (4))] h Q := by
  obtain ⟨d, rfl, he⟩ := dpos hd
  refine AM.of [some (.int (nI (r))), some (.int (nI (4))), none] pnX9 (Nat.le_of_ble_eq_true rfl) (by simp [lsub, lvI, Value.category]) ?_
  refine a_iloadn_0 (pc := 0) dX9_beside_0 ?_
  refine a_bipush (pc := 1) (v := nI 6) dX9_beside_1 (by decide) ?_
  refine n_irem dX9_beside_3 (by omega) (by decide) (by decide) ?_
  refine a_istoren_2 (pc := 4) dX9_beside_4 (by decide) (by first | rfl | trivial) ?_
  refine a_iloadn_1 (pc := 5) dX9_beside_5 ?_
  refine a_tableOut (pc := 6) (tgt := 84) dX9_beside_6 (by decide) (by decide) ?_
  refine a_iloadn_0 (pc := 84) dX9_beside_84 ?_
  exact a_iret (pc := 85) dX9_beside_85 rfl (zf hz) (k1 _ rfl)
theorem w_beside {G : Cx} {d r w : Nat} {h : List va_E} {Q : Option Value → List va_E → Prop} (hd : 1 ≤ d) (hz : gz G = false) (hr : r < 36) (hw : w < 5) (k1 : ∀ o, bes5 r w = some o → Q (some (.int (nI o))) h) (k0 : bes5 r w = none → ∀ y : Int32, y < 0 → Q (some (.int y)) h) : AM G yX9_beside cX9_beside 3 (some .int) d 0 0 [.int (nI r), .int (nI w)] h Q := by
  rcases (show w = 0 ∨ w = 1 ∨ w = 2 ∨ w = 3 ∨ w = 4 by omega) with rfl | rfl | rfl | rfl | rfl
  · exact w_beside0 hd hz hr k1 k0
  · exact w_beside1 hd hz hr k1 k0
  · exact w_beside2 hd hz hr k1 k0
  · exact w_beside3 hd hz hr k1 k0
  · exact w_beside4 hd hz hr k1 k0
section WQr
variable {G : Cx} {y : MethodName} {cc : ByteArray} {mL : Nat} {rt : Option FieldType} {R : Room} {Z : List Frame → Array Value → State → State → Prop} {cn sn pc : Nat} {ls : List (Option Value)} {st : List Value} {h h0 : List va_E} {v : Cv} {X : Nat → Cv} {F : Lf} {s : Wk}
theorem wg_wax {i : Nat} (hi : i < 5) (H : WQ G h0 h v X F s) (ho : y.cls = RX9) (hd : decode cc pc = .ok (.getfield 66, 3)) (kk : AW G y cc mL rt R Z cn sn (pc + 3) ls (.ref (gB G + (33 + 3 * i + 1)) :: st) h) : AW G y cc mL rt R Z cn sn pc ls (.ref (gB G + (33 + 3 * i)) :: st) h := by
  obtain ⟨u, hu, hs⟩ := H.2.2.2.2.2.2.2 i hi
  exact gf_X9_66 ho hd hu.1 kk
theorem wl_wax {i j : Nat} (hi : i < 5) (H : WQ G h0 h v X F s) (hd : decode cc pc = .ok (.iaload, 1)) (hj : j < 36) (kk : cW (X i) j ≤ 99 → AW G y cc mL rt R Z cn sn (pc + 1) ls (.int (nI (cW (X i) j)) :: st) h) : AW G y cc mL rt R Z cn sn pc ls (.int (nI j) :: .ref (gB G + (33 + 3 * i + 1)) :: st) h := by
  obtain ⟨u, hu, hs⟩ := H.2.2.2.2.2.2.2 i hi
  exact b_iald j hd hu.2.1 rfl hj (by decide) (by rw [hs.1]; exact kk (by rw [← hs.1]; exact hu.2.2.2.1 j))
theorem wl_beh {j : Nat} (H : WQ G h0 h v X F s) (hd : decode cc pc = .ok (.aaload, 1)) (hj : j < 5) (kk : AW G y cc mL rt R Z cn sn (pc + 1) ls (.ref (gB G + (33 + 3 * j)) :: st) h) : AW G y cc mL rt R Z cn sn pc ls (.int (nI j) :: .ref (gB G + 30) :: st) h :=
  a_aald 3 j hd rfl hj (by decide) rfl H.2.2.2.2.1 rfl kk
theorem ws_step {j x : Nat} (H : WQ G h0 h v X F s) (hd : decode cc pc = .ok (.iastore, 1)) (hj : j < 4) (kk : ∀ h1, WQ G h0 h1 v X F (va_up s.1 j x, s.2.1, s.2.2) → AW G y cc mL rt R Z cn sn (pc + 1) ls st h1) : AW G y cc mL rt R Z cn sn pc ls (.int (nI x) :: .int (nI j) :: .ref (gB G + 31) :: st) h := by
  have H2 := H
  obtain ⟨a1, a2, a3, a4, a5, a6, a7, a8⟩ := H
  refine b_iast j hd a6 rfl hj (by decide) ?_
  refine a_h (congrArg (fun e => h.set 31 e) (show _ = (ints G 4 (va_up s.1 j x) : va_E) from ?_)) (kk _ (H2.cell (by omega) (hs_ne (by omega) a4) (hs_eq a6) (hs_ne (by omega) a7)))
  exact congrArg (fun g : Nat → Int32 => (show va_E from .inl (gc G 0, 4, .inl g))) (upd_nI _ _ _)
theorem wp_few {x : Nat} (H : WQ G h0 h v X F s) (ho : y.cls = RX9) (hd : decode cc pc = .ok (.putfield 33, 3)) (kk : ∀ h1, WQ G h0 h1 v X F (s.1, s.2.1, x) → AW G y cc mL rt R Z cn sn (pc + 3) ls st h1) : AW G y cc mL rt R Z cn sn pc ls (.int (nI x) :: .ref (gB G + 29) :: st) h := by
  have H2 := H
  obtain ⟨a1, a2, a3, a4, a5, a6, a7, a8⟩ := H
  exact pf_X9_33 ho hd a4 (kk _ (H2.cell (by omega) (hs_eq a4) (hs_ne (by omega) a6) (hs_ne (by omega) a7)))
end WQr
/-- the way is weighed -/
def cp4 (a b : Nat → Nat) : Nat → Nat := fun j => if j < 4 then a j else b j
theorem cpy_4 (a b : Nat → Nat) : va_cpy (fun j => nI (a j)) (fun j => nI (b j)) 0 0 4 = fun j => nI (cp4 a b j) := by
  funext j
  unfold va_cpy cp4
  by_cases e : j < 4
  · rw [if_pos ⟨Nat.zero_le _, by omega⟩, if_pos e]; simp
  · rw [if_neg (fun z => e (by omega)), if_neg e]
def wgh (n : Nat) (s : Wk) : Wk := if n < s.2.2 then (s.1, cp4 s.1 s.2.1, n) else s
def stepC (F : Lf) (x : Cv) (o : Nat) : Cv := chour F (if cK x o = false ∧ cW x o < 6 then csW x o 6 else x)
def wfold (g : Nat → Nat → Wk → Wk) (r : Nat) (s : Wk) : Nat → Wk
  | 0 => s
  | k + 1 => match bes5 r k with
    | none => wfold g r s k
    | some o => g k o (wfold g r s k)
def goF (F : Lf) : Nat → Nat → Cv → Nat → Wk → Wk
  | 0, _, x, _, s => wgh (ctn (cK x) 36) s
  | j + 1, r, x, e, s => wfold (fun w o s => goF F j o (stepC F x o) (e + 1) (va_up s.1 e w, s.2.1, s.2.2)) r s 5
theorem wfold_le {g : Nat → Nat → Wk → Wk} {r : Nat} {s : Wk} (hg : ∀ w o s, s.2.2 ≤ 37 → (g w o s).2.2 ≤ 37) (hs : s.2.2 ≤ 37) : ∀ k, (wfold g r s k).2.2 ≤ 37
  | 0 => hs
  | k + 1 => by
    have ih := wfold_le (r := r) hg hs k
    rw [wfold]
    split
    · exact ih
    · exact hg _ _ _ ih
theorem goF_le {F : Lf} : ∀ j r x e s, s.2.2 ≤ 37 → (goF F j r x e s).2.2 ≤ 37
  | 0, _, x, _, s, h => by
    have := ctn_le (cK x) 36
    rw [goF, wgh]
    split
    · show ctn (cK x) 36 ≤ 37; omega
    · exact h
  | j + 1, r, x, e, s, h => wfold_le (g := fun w o s => goF F j o (stepC F x o) (e + 1) (va_up s.1 e w, s.2.1, s.2.2)) (fun w o s hs => goF_le j o (stepC F x o) (e + 1) (va_up s.1 e w, s.2.1, s.2.2) hs) h 5
set_option maxRecDepth 100000 in
set_option maxHeartbeats 4000000 in
theorem w_stepAt {G : Cx} {d : Nat} {h h0 : List va_E} {v : Cv} {X : Nat → Cv} {F : Lf} {s : Wk} {Q : Option Value → List va_E → Prop} (hd : 1 ≤ d) (hz : gz G = false) (hm : WQ G h0 h v X F s) {j : Nat} (hj : j < 4) (k : Q (some (.int (nI (s.2.1 j)))) h) : AM G yX9_stepAt cX9_stepAt 2 (some .int) d 0 0 [.ref (gB G + 29), .int (nI (j))] h Q := by
  obtain ⟨d, rfl, he⟩ := dpos hd
  refine AM.of [some (.ref (gB G + 29)), some (.int (nI (j)))] pnX9 (Nat.le_of_ble_eq_true rfl) (by simp [lsub, lvI, Value.category]) ?_
  refine a_iloadn_1 (pc := 0) dX9_stepAt_0 ?_
  refine n_if_lt (tgt := 18) dX9_stepAt_1 (by decide) (by omega) ?_
  refine a_iloadn_1 (pc := 4) dX9_stepAt_4 ?_
  refine a_iconst (pc := 5) (v := nI 4) dX9_stepAt_5 (by decide) ?_
  refine n_icmp_ge (tgt := 18) dX9_stepAt_6 (by decide) (by omega) (by decide) (fun c_6 => by omega) (fun c_6 => ?_)
  refine a_aloadn_0 (pc := 9) dX9_stepAt_9 ?_
  refine gf_X9_21 (pc := 10) rfl dX9_stepAt_10 hm.ob ?_
  refine a_iloadn_1 (pc := 13) dX9_stepAt_13 ?_
  refine b_iald (pc := 14) j dX9_stepAt_14 hm.2.2.2.2.2.2.1 rfl (by omega) (by decide) ?_
  refine a_goto (pc := 15) (tgt := 19) dX9_stepAt_15 (by decide) ?_
  exact a_iret (pc := 19) dX9_stepAt_19 rfl (zf hz) k
set_option maxRecDepth 100000 in
set_option maxHeartbeats 4000000 in
theorem w_weigh {G : Cx} {d : Nat} {h h0 : List va_E} {v : Cv} {X : Nat → Cv} {F : Lf} {s : Wk} {Q : Option Value → List va_E → Prop} (hd : 1 ≤ d) (hz : gz G = false) (hm : WQ G h0 h v X F s) {nn : Nat} (hn : nn ≤ 36) (hf : s.2.2 ≤ 37) (k : ∀ h1, WQ G h0 h1 v X F (wgh nn s) → Q none h1) : AM G yX9_weigh cX9_weigh 2 none d 0 0 [.ref (gB G + 29), .int (nI (nn))] h Q := by
  obtain ⟨d, rfl, he⟩ := dpos hd
  refine AM.of [some (.ref (gB G + 29)), some (.int (nI (nn)))] pnX9 (Nat.le_of_ble_eq_true rfl) (by simp [lsub, lvI, Value.category]) ?_
  refine a_iloadn_1 (pc := 0) dX9_weigh_0 ?_
  refine a_aloadn_0 (pc := 1) dX9_weigh_1 ?_
  refine gf_X9_33 (pc := 2) rfl dX9_weigh_2 hm.ob ?_
  refine n_icmp_ge (tgt := 27) dX9_weigh_5 (by decide) (by omega) (by omega) (fun c_5 => ?_) (fun c_5 => ?_)
  · exact a_vret (pc := 27) dX9_weigh_27 rfl (zf hz) (by rw [wgh, if_neg (by omega)] at k; exact k _ hm)
  · refine a_aloadn_0 (pc := 8) dX9_weigh_8 ?_
    refine a_iloadn_1 (pc := 9) dX9_weigh_9 ?_
    refine wp_few (x := nn) hm rfl dX9_weigh_10 (fun h1 hm1 => ?_)
    refine a_aloadn_0 (pc := 13) dX9_weigh_13 ?_
    refine gf_X9_17 (pc := 14) rfl dX9_weigh_14 hm1.ob ?_
    refine a_iconst (pc := 17) (v := nI 0) dX9_weigh_17 (by decide) ?_
    refine a_aloadn_0 (pc := 18) dX9_weigh_18 ?_
    refine gf_X9_21 (pc := 19) rfl dX9_weigh_19 hm1.ob ?_
    refine a_iconst (pc := 22) (v := nI 0) dX9_weigh_22 (by decide) ?_
    refine a_iconst (pc := 23) (v := nI 4) dX9_weigh_23 (by decide) ?_
    refine a_copyiR (pc := 24) 0 0 4 dX9_weigh_24 w_746 (by decide) (by decide) rfl rfl rfl (by decide) (by decide) hm1.2.2.2.2.2.1 hm1.2.2.2.2.2.2.1 (by first | decide | omega) ?_
    refine a_h (congrArg (fun e => h1.set 32 e) (show _ = (ints G 4 (cp4 s.1 s.2.1) : va_E) from congrArg (fun g : Nat → Int32 => (show va_E from .inl (gc G 0, 4, .inl g))) (cpy_4 _ _))) ?_
    have hm9 : WQ G h0 _ v X F (s.1, cp4 s.1 s.2.1, nn) := WQ.cell hm1 (k := 32) (e := ints G 4 (cp4 s.1 s.2.1)) (s' := (s.1, cp4 s.1 s.2.1, nn)) (by omega) (hs_ne (by omega) hm1.2.2.2.1) (hs_ne (by omega) hm1.2.2.2.2.2.1) (hs_eq hm1.2.2.2.2.2.2.1)
    exact a_vret (pc := 27) dX9_weigh_27 rfl (zf hz) (by rw [wgh, if_pos (by omega)] at k; exact k _ hm9)
set_option maxRecDepth 100000 in
set_option maxHeartbeats 4000000 in
theorem w_go {G : Cx} {h0 : List va_E} {v : Cv} {F : Lf} {m : Nat} (hz : gz G = false) (hm4 : m ≤ 4) : ∀ (j : Nat) {d : Nat} {h : List va_E} {X : Nat → Cv} {s : Wk} {r e : Nat} {Q : Option Value → List va_E → Prop}, 8 + j ≤ d → WQ G h0 h v X F s → e + j = m → r < 36 → s.2.2 ≤ 37 → (∀ h1 X1, (∀ i, i ≤ e → X1 i = X i) → WQ G h0 h1 v X1 F (goF F j r (X e) e s) → Q none h1) → AM G yX9_go cX9_go 7 none d 0 0 [.ref (gB G + 29), .int (nI r), .int (nI e), .int (nI m)] h Q := by
  intro j
  induction j with
  | zero =>
    intro d h X s r e Q hd hm hej hr hf k
    obtain ⟨d, rfl, he⟩ := dpos hd
    have em : e = m := by omega
    subst em
    refine AM.of [some (.ref (gB G + 29)), some (.int (nI (r))), some (.int (nI (e))), some (.int (nI (e))), none, none, none] pnX9 (Nat.le_of_ble_eq_true rfl) (by simp [lsub, lvI, Value.category]) ?_
    refine a_iloadn_2 (pc := 0) dX9_go_0 ?_
    refine a_iloadn_3 (pc := 1) dX9_go_1 ?_
    refine n_icmp_lt (tgt := 19) dX9_go_2 (by decide) (by omega) (by omega) (fun c_2 => by omega) (fun c_2 => ?_)
    refine a_aloadn_0 (pc := 5) dX9_go_5 ?_
    refine a_aloadn_0 (pc := 6) dX9_go_6 ?_
    refine gf_X9_13 (pc := 7) rfl dX9_go_7 hm.ob ?_
    refine a_iloadn_3 (pc := 10) dX9_go_10 ?_
    refine wl_beh hm dX9_go_11 (by omega) ?_
    refine cv_X9_51 (pc := 12) rfl dX9_go_12 (hm.cX (i := e) (by omega)).choose_spec (Nat.le_of_ble_eq_true rfl) ?_
    refine w_darkCount (i := e) (by omega) (by omega) hz hm ?_
    refine cv_X9_55 (pc := 15) rfl dX9_go_15 hm.ob (Nat.le_of_ble_eq_true rfl) ?_
    have c36 := ctn_le (cK (X e)) 36
    refine w_weigh (by omega) hz hm (by omega) (by omega) (fun h2 hm2 => ?_)
    exact a_vret (pc := 18) dX9_go_18 rfl (zf hz) (k _ _ (fun _ _ => rfl) hm2)
  | succ j ihj =>
    intro d h X s r e Q hd hm hej hr hf k
    obtain ⟨d, rfl, he⟩ := dpos hd
    obtain ⟨g, hg⟩ : ∃ g : Nat → Nat → Wk → Wk, g = fun w o s => goF F j o (stepC F (X e) o) (e + 1) (va_up s.1 e w, s.2.1, s.2.2) := ⟨_, rfl⟩
    have g37 : ∀ w o (s : Wk), s.2.2 ≤ 37 → (g w o s).2.2 ≤ 37 := fun w o s hs => by rw [hg]; exact goF_le j o (stepC F (X e) o) (e + 1) (va_up s.1 e w, s.2.1, s.2.2) hs
    have ke : goF F (j + 1) r (X e) e s = wfold g r s 5 := by rw [hg]; rfl
    rw [ke] at k
    have lp : ∀ (n w : Nat) (h1 : List va_E) (Z : Nat → Cv) (s1 : Wk), 5 - w < n → w ≤ 5 → (∀ i, i ≤ e → Z i = X i) → s1 = wfold g r s w → s1.2.2 ≤ 37 → WQ G h0 h1 v Z F s1 → AW G yX9_go cX9_go 7 none (rmx (d + 1) 0 0) (ZQ G 0 0 (h.length + 0) Q) 0 0 32 [some (.ref (gB G + 29)), some (.int (nI (r))), some (.int (nI (e))), some (.int (nI (m))), some (.ref (gB G + (33 + 3 * (e + 1)))), some (.int (nI (w))), none] [] h1 := by
      intro n
      induction n with
      | zero => intro w h1 Z s1 hn; exact absurd hn (Nat.not_lt_zero _)
      | succ n ih =>
        intro w h1 Z s1 hn hw hX1 hs1 hf1 hm1
        refine a_iload_5 (pc := 32) dX9_go_32 ?_
        refine a_iconst (pc := 34) (v := nI 5) dX9_go_34 (by decide) ?_
        refine n_icmp_ge (tgt := 127) dX9_go_35 (by decide) (by omega) (by decide) (fun c_35 => ?_) (fun c_35 => ?_)
        · have w5 : w = 5 := by omega
          subst w5
          rw [← hs1] at k
          exact a_vret (pc := 127) dX9_go_127 rfl (zf hz) (k _ _ hX1 hm1)
        · refine a_iloadn_1 (pc := 38) dX9_go_38 ?_
          refine a_iload_5 (pc := 39) dX9_go_39 ?_
          refine cs_X9_59 (pc := 41) rfl dX9_go_41 (Nat.le_of_ble_eq_true rfl) ?_
          refine w_beside (by omega) hz hr (by omega) (fun o ho => ?_) (fun ho y hy => ?_)
          · have o36 := bes5_lt hr ho
            refine a_istore_6 (pc := 44) dX9_go_44 (by decide) (by first | rfl | trivial) ?_
            refine a_iload_6 (pc := 46) dX9_go_46 ?_
            refine n_if_lt (tgt := 121) dX9_go_48 (by decide) (by omega) ?_
            refine a_aloadn_0 (pc := 51) dX9_go_51 ?_
            refine gf_X9_17 (pc := 52) rfl dX9_go_52 hm1.ob ?_
            refine a_iloadn_2 (pc := 55) dX9_go_55 ?_
            refine a_iload_5 (pc := 56) dX9_go_56 ?_
            refine ws_step (x := w) hm1 dX9_go_58 (by omega) (fun h3 hm3 => ?_)
            refine a_aload_4 (pc := 59) dX9_go_59 ?_
            refine a_aloadn_0 (pc := 61) dX9_go_61 ?_
            refine gf_X9_13 (pc := 62) rfl dX9_go_62 hm3.ob ?_
            refine a_iloadn_2 (pc := 65) dX9_go_65 ?_
            refine wl_beh hm3 dX9_go_66 (by omega) ?_
            refine cv_X9_37 (pc := 67) rfl dX9_go_67 (hm3.cX (i := (e + 1)) (by omega)).choose_spec (Nat.le_of_ble_eq_true rfl) ?_
            refine w_copy (i := e) (by omega) (by omega) hz hm3 (fun h4 hm4 => ?_)
            generalize hY4 : upX Z (e + 1) (Z e) = Y4 at hm4
            have aY4 : Y4 (e + 1) = Z e := by rw [← hY4]; exact if_pos rfl
            have bY4 : ∀ i, i ≤ e → Y4 i = X i := fun i hi => by rw [← hY4]; exact (if_neg (by omega)).trans (hX1 i hi)
            rw [hX1 e (Nat.le_refl e)] at aY4
            refine a_aload_4 (pc := 70) dX9_go_70 ?_
            refine a_iload_6 (pc := 72) dX9_go_72 ?_
            refine cv_X9_62 (pc := 74) rfl dX9_go_74 (hm4.cX (i := (e + 1)) (by omega)).choose_spec (Nat.le_of_ble_eq_true rfl) ?_
            refine w_isDark (i := e + 1) (by omega) (by omega) hz hm4 (by omega) ?_
            refine b_if_ne (pc := 77) (tgt := 102) dX9_go_77 (by decide) (fun c_77 => ?_) (fun c_77 => ?_)
            · refine a_aload_4 (pc := 102) dX9_go_102 ?_
              refine a_aloadn_0 (pc := 104) dX9_go_104 ?_
              refine gf_X9_28 (pc := 105) rfl dX9_go_105 hm4.ob ?_
              refine cv_X9_73 (pc := 108) rfl dX9_go_108 (hm4.cX (i := (e + 1)) (by omega)).choose_spec (Nat.le_of_ble_eq_true rfl) ?_
              have e8 : chour F (Y4 (e + 1)) = stepC F (X e) o := by
                rw [aY4] at c_77 ⊢
                rw [stepC, if_neg (by rw [c_77]; simp)]
              refine w_hour (i := e + 1) (by omega) (by omega) hz hm4 (fun h5 hm5 => ?_)
              generalize hY5 : upX Y4 (e + 1) (chour F (Y4 (e + 1))) = Y5 at hm5
              have aY5 : Y5 (e + 1) = chour F (Y4 (e + 1)) := by rw [← hY5]; exact if_pos rfl
              have bY5 : ∀ i, i ≤ e → Y5 i = X i := fun i hi => by rw [← hY5]; exact (if_neg (by omega)).trans (bY4 i hi)
              rw [e8] at aY5
              refine a_aloadn_0 (pc := 111) dX9_go_111 ?_
              refine a_iload_6 (pc := 112) dX9_go_112 ?_
              refine a_iloadn_2 (pc := 114) dX9_go_114 ?_
              refine a_iconst (pc := 115) (v := nI 1) dX9_go_115 (by decide) ?_
              refine n_iadd dX9_go_116 ?_
              refine a_iloadn_3 (pc := 117) dX9_go_117 ?_
              refine cv_X9_47 (pc := 118) rfl dX9_go_118 hm5.ob (Nat.le_of_ble_eq_true rfl) ?_
              refine ihj (by omega) hm5 (by omega) (by omega) (by omega) (fun h6 Y6 bY6 hm6 => ?_)
              rw [aY5] at hm6
              have cY6 : ∀ i, i ≤ e → Y6 i = X i := fun i hi => (bY6 i (by omega)).trans (bY5 i hi)
              refine a_iinc_5 (pc := 121) (v := nI (w + 1)) dX9_go_121 (nI_add _ _) (by decide) (by first | rfl | trivial) ?_
              refine a_goto (pc := 124) (tgt := 32) dX9_go_124 (by decide) ?_
              refine a_ls (ls' := [some _, some _, some _, some _, some _, some _, none, none]) ⟨rfl, rfl, rfl, rfl, rfl, rfl, trivial⟩ ?_
              exact ih (w + 1) _ _ _ (by omega) (by omega) cY6 (by rw [wfold, ho]; dsimp only; rw [← hs1, hg]) (by have := g37 w o s1 hf1; rw [hg] at this; exact this) hm6
            · refine a_aload_4 (pc := 80) dX9_go_80 ?_
              refine wg_wax (i := (e + 1)) (by omega) hm4 rfl dX9_go_82 ?_
              refine a_iload_6 (pc := 85) dX9_go_85 ?_
              refine wl_wax (i := (e + 1)) (by omega) hm4 dX9_go_87 (by omega) (fun w99_5 => ?_)
              refine a_bipush (pc := 88) (v := nI 6) dX9_go_88 (by decide) ?_
              refine n_icmp_ge (tgt := 102) dX9_go_90 (by decide) (by omega) (by decide) (fun c_90 => ?_) (fun c_90 => ?_)
              · refine a_aload_4 (pc := 102) dX9_go_102 ?_
                refine a_aloadn_0 (pc := 104) dX9_go_104 ?_
                refine gf_X9_28 (pc := 105) rfl dX9_go_105 hm4.ob ?_
                refine cv_X9_73 (pc := 108) rfl dX9_go_108 (hm4.cX (i := (e + 1)) (by omega)).choose_spec (Nat.le_of_ble_eq_true rfl) ?_
                have e8 : chour F (Y4 (e + 1)) = stepC F (X e) o := by
                  rw [aY4] at c_90 ⊢
                  rw [stepC, if_neg (by omega)]
                refine w_hour (i := e + 1) (by omega) (by omega) hz hm4 (fun h6 hm6 => ?_)
                generalize hY6 : upX Y4 (e + 1) (chour F (Y4 (e + 1))) = Y6 at hm6
                have aY6 : Y6 (e + 1) = chour F (Y4 (e + 1)) := by rw [← hY6]; exact if_pos rfl
                have bY6 : ∀ i, i ≤ e → Y6 i = X i := fun i hi => by rw [← hY6]; exact (if_neg (by omega)).trans (bY4 i hi)
                rw [e8] at aY6
                refine a_aloadn_0 (pc := 111) dX9_go_111 ?_
                refine a_iload_6 (pc := 112) dX9_go_112 ?_
                refine a_iloadn_2 (pc := 114) dX9_go_114 ?_
                refine a_iconst (pc := 115) (v := nI 1) dX9_go_115 (by decide) ?_
                refine n_iadd dX9_go_116 ?_
                refine a_iloadn_3 (pc := 117) dX9_go_117 ?_
                refine cv_X9_47 (pc := 118) rfl dX9_go_118 hm6.ob (Nat.le_of_ble_eq_true rfl) ?_
                refine ihj (by omega) hm6 (by omega) (by omega) (by omega) (fun h7 Y7 bY7 hm7 => ?_)
                rw [aY6] at hm7
                have cY7 : ∀ i, i ≤ e → Y7 i = X i := fun i hi => (bY7 i (by omega)).trans (bY6 i hi)
                refine a_iinc_5 (pc := 121) (v := nI (w + 1)) dX9_go_121 (nI_add _ _) (by decide) (by first | rfl | trivial) ?_
                refine a_goto (pc := 124) (tgt := 32) dX9_go_124 (by decide) ?_
                refine a_ls (ls' := [some _, some _, some _, some _, some _, some _, none, none]) ⟨rfl, rfl, rfl, rfl, rfl, rfl, trivial⟩ ?_
                exact ih (w + 1) _ _ _ (by omega) (by omega) cY7 (by rw [wfold, ho]; dsimp only; rw [← hs1, hg]) (by have := g37 w o s1 hf1; rw [hg] at this; exact this) hm7
              · refine a_aload_4 (pc := 93) dX9_go_93 ?_
                refine a_iload_6 (pc := 95) dX9_go_95 ?_
                refine a_bipush (pc := 97) (v := nI 6) dX9_go_97 (by decide) ?_
                refine cv_X9_69 (pc := 99) rfl dX9_go_99 (hm4.cX (i := (e + 1)) (by omega)).choose_spec (Nat.le_of_ble_eq_true rfl) ?_
                refine w_setWax (i := e + 1) (by omega) (by omega) hz hm4 (by omega) (by omega) (fun h6 hm6 => ?_)
                generalize hY6 : upX Y4 (e + 1) (csW (Y4 (e + 1)) o 6) = Y6 at hm6
                have aY6 : Y6 (e + 1) = csW (Y4 (e + 1)) o 6 := by rw [← hY6]; exact if_pos rfl
                have bY6 : ∀ i, i ≤ e → Y6 i = X i := fun i hi => by rw [← hY6]; exact (if_neg (by omega)).trans (bY4 i hi)
                refine a_aload_4 (pc := 102) dX9_go_102 ?_
                refine a_aloadn_0 (pc := 104) dX9_go_104 ?_
                refine gf_X9_28 (pc := 105) rfl dX9_go_105 hm6.ob ?_
                refine cv_X9_73 (pc := 108) rfl dX9_go_108 (hm6.cX (i := (e + 1)) (by omega)).choose_spec (Nat.le_of_ble_eq_true rfl) ?_
                have e8 : chour F (Y6 (e + 1)) = stepC F (X e) o := by
                  rw [aY6, aY4]
                  rw [aY4] at c_77 c_90
                  rw [stepC, if_pos ⟨c_77, by omega⟩]
                refine w_hour (i := e + 1) (by omega) (by omega) hz hm6 (fun h7 hm7 => ?_)
                generalize hY7 : upX Y6 (e + 1) (chour F (Y6 (e + 1))) = Y7 at hm7
                have aY7 : Y7 (e + 1) = chour F (Y6 (e + 1)) := by rw [← hY7]; exact if_pos rfl
                have bY7 : ∀ i, i ≤ e → Y7 i = X i := fun i hi => by rw [← hY7]; exact (if_neg (by omega)).trans (bY6 i hi)
                rw [e8] at aY7
                refine a_aloadn_0 (pc := 111) dX9_go_111 ?_
                refine a_iload_6 (pc := 112) dX9_go_112 ?_
                refine a_iloadn_2 (pc := 114) dX9_go_114 ?_
                refine a_iconst (pc := 115) (v := nI 1) dX9_go_115 (by decide) ?_
                refine n_iadd dX9_go_116 ?_
                refine a_iloadn_3 (pc := 117) dX9_go_117 ?_
                refine cv_X9_47 (pc := 118) rfl dX9_go_118 hm7.ob (Nat.le_of_ble_eq_true rfl) ?_
                refine ihj (by omega) hm7 (by omega) (by omega) (by omega) (fun h8 Y8 bY8 hm8 => ?_)
                rw [aY7] at hm8
                have cY8 : ∀ i, i ≤ e → Y8 i = X i := fun i hi => (bY8 i (by omega)).trans (bY7 i hi)
                refine a_iinc_5 (pc := 121) (v := nI (w + 1)) dX9_go_121 (nI_add _ _) (by decide) (by first | rfl | trivial) ?_
                refine a_goto (pc := 124) (tgt := 32) dX9_go_124 (by decide) ?_
                refine a_ls (ls' := [some _, some _, some _, some _, some _, some _, none, none]) ⟨rfl, rfl, rfl, rfl, rfl, rfl, trivial⟩ ?_
                exact ih (w + 1) _ _ _ (by omega) (by omega) cY8 (by rw [wfold, ho]; dsimp only; rw [← hs1, hg]) (by have := g37 w o s1 hf1; rw [hg] at this; exact this) hm8
          · refine a_istore_6 (pc := 44) dX9_go_44 (by decide) (by first | rfl | trivial) ?_
            refine a_iload_6 (pc := 46) dX9_go_46 ?_
            refine a_if_lt (pc := 48) (tgt := 121) dX9_go_48 (by decide) (fun c_48 => ?_) (fun c_48 => absurd hy c_48)
            refine a_iinc_5 (pc := 121) (v := nI (w + 1)) dX9_go_121 (nI_add _ _) (by decide) (by first | rfl | trivial) ?_
            refine a_goto (pc := 124) (tgt := 32) dX9_go_124 (by decide) ?_
            refine a_ls (ls' := [some _, some _, some _, some _, some _, some _, none, none]) ⟨rfl, rfl, rfl, rfl, rfl, rfl, trivial⟩ ?_
            exact ih (w + 1) _ _ _ (by omega) (by omega) hX1 (by rw [wfold, ho]; exact hs1) hf1 hm1
    refine AM.of [some (.ref (gB G + 29)), some (.int (nI (r))), some (.int (nI (e))), some (.int (nI (m))), none, none, none] pnX9 (Nat.le_of_ble_eq_true rfl) (by simp [lsub, lvI, Value.category]) ?_
    refine a_iloadn_2 (pc := 0) dX9_go_0 ?_
    refine a_iloadn_3 (pc := 1) dX9_go_1 ?_
    refine n_icmp_lt (tgt := 19) dX9_go_2 (by decide) (by omega) (by omega) (fun c_2 => ?_) (fun c_2 => by omega)
    refine a_aloadn_0 (pc := 19) dX9_go_19 ?_
    refine gf_X9_13 (pc := 20) rfl dX9_go_20 hm.ob ?_
    refine a_iloadn_2 (pc := 23) dX9_go_23 ?_
    refine a_iconst (pc := 24) (v := nI 1) dX9_go_24 (by decide) ?_
    refine n_iadd dX9_go_25 ?_
    refine wl_beh hm dX9_go_26 (by omega) ?_
    refine a_astore_4 (pc := 27) dX9_go_27 (by decide) (by first | rfl | trivial) ?_
    refine a_iconst (pc := 29) (v := nI 0) dX9_go_29 (by decide) ?_
    refine a_istore_5 (pc := 30) dX9_go_30 (by decide) (by first | rfl | trivial) ?_
    exact lp 6 0 _ _ _ (by omega) (by omega) (fun _ _ => rfl) rfl hf hm
set_option maxRecDepth 100000 in
set_option maxHeartbeats 4000000 in
theorem w_find {G : Cx} {d : Nat} {h h0 : List va_E} {v : Cv} {X : Nat → Cv} {F : Lf} {s : Wk} {Q : Option Value → List va_E → Prop} (hd : 14 ≤ d) (hz : gz G = false) (hm : WQ G h0 h v X F s) {r m : Nat} (hr : r < 36) (hm9 : m < 1000) (k : ∀ h1 X1, WQ G h0 h1 v X1 F (goF F (min m 4) r v 0 (s.1, s.2.1, 37)) → Q none h1) : AM G yX9_find cX9_find 3 none d 0 0 [.ref (gB G + 29), .int (nI (r)), .int (nI (m))] h Q := by
  obtain ⟨d, rfl, he⟩ := dpos hd
  refine AM.of [some (.ref (gB G + 29)), some (.int (nI (r))), some (.int (nI (m)))] pnX9 (Nat.le_of_ble_eq_true rfl) (by simp [lsub, lvI, Value.category]) ?_
  refine a_aloadn_0 (pc := 0) dX9_find_0 ?_
  refine a_bipush (pc := 1) (v := nI 37) dX9_find_1 (by decide) ?_
  refine wp_few (x := 37) hm rfl dX9_find_3 (fun h1 hm1 => ?_)
  refine a_aloadn_0 (pc := 6) dX9_find_6 ?_
  refine gf_X9_13 (pc := 7) rfl dX9_find_7 hm1.ob ?_
  refine a_iconst (pc := 10) (v := nI 0) dX9_find_10 (by decide) ?_
  refine wl_beh hm1 dX9_find_11 (by decide) ?_
  refine a_aloadn_0 (pc := 12) dX9_find_12 ?_
  refine gf_X9_24 (pc := 13) rfl dX9_find_13 hm1.ob ?_
  refine cv_X9_37 (pc := 16) rfl dX9_find_16 (hm1.cX (i := 0) (by omega)).choose_spec (Nat.le_of_ble_eq_true rfl) ?_
  refine w_copy0 (by omega) hz hm1 (fun h2 hm2 => ?_)
  refine a_aloadn_0 (pc := 19) dX9_find_19 ?_
  refine a_iloadn_1 (pc := 20) dX9_find_20 ?_
  refine a_iconst (pc := 21) (v := nI 0) dX9_find_21 (by decide) ?_
  refine a_iloadn_2 (pc := 22) dX9_find_22 ?_
  refine a_iconst (pc := 23) (v := nI 4) dX9_find_23 (by decide) ?_
  refine a_mminR (pc := 24) dX9_find_24 w_736 (Nat.le_of_ble_eq_true rfl) ?_
  refine a_topi (nI (min m 4)) (mmin_nI (by omega) (by decide)) ?_
  refine cv_X9_47 (pc := 27) rfl dX9_find_27 hm2.ob (Nat.le_of_ble_eq_true rfl) ?_
  refine w_go hz (by omega) (min m 4) (by omega) hm2 (Nat.zero_add _) hr (Nat.le_refl 37) (fun h3 X9 _ hm3 => ?_)
  exact a_vret (pc := 30) dX9_find_30 rfl (zf hz) (k _ _ hm3)
