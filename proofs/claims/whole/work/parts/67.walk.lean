/-! WALK (29): behind[] (30), steps (31), best (32), its cities 33, 36 .. 45, laid on now (1) -/
theorem pnX9 : plainName RX9 = true := by decide
abbrev Wk : Type := (Nat → Nat) × (Nat → Nat) × Nat
abbrev wkob (G : Cx) (s : Wk) : va_E := .inr (9, [.ref (gB G + 1), .ref (gB G + 7), .ref (gB G + 30), .ref (gB G + 31), .ref (gB G + 32), .int (nI s.2.2)])
def WQ (G : Cx) (h0 h : List va_E) (v : Cv) (X : Nat → Cv) (F : Lf) (s : Wk) : Prop := FR 29 47 h0 h ∧ cityAt G h 1 v ∧ LawOK G h F ∧ h[29]? = some (wkob G s) ∧ h[30]? = some (.inl (gc G 3, 5, .inr (.inr (.inr (.inr (fun j => some (gB G + (33 + 3 * j)))))))) ∧ h[31]? = some (ints G 4 s.1) ∧ h[32]? = some (ints G 4 s.2.1) ∧ ∀ i, i < 5 → ∃ u, cityAt G h (33 + 3 * i) u ∧ SC u (X i)
abbrev upX (X : Nat → Cv) (i : Nat) (x : Cv) : Nat → Cv := fun j => if j = i then x else X j
section WQs
variable {G : Cx} {h0 h : List va_E} {v : Cv} {X : Nat → Cv} {F : Lf} {s : Wk} {d : Nat} {Q : Option Value → List va_E → Prop}
theorem WQ.ob (H : WQ G h0 h v X F s) : h[29]? = some (wkob G s) := H.2.2.2.1
theorem WQ.ok (H : WQ G h0 h v X F s) : okC v := H.2.1.2.2.2
theorem WQ.cX (H : WQ G h0 h v X F s) {i : Nat} (hi : i < 5) : ∃ fs, h[33 + 3 * i]? = some (.inr (0, fs)) := by
  obtain ⟨u, hu, _⟩ := H.2.2.2.2.2.2.2 i hi
  exact ⟨_, hu.1⟩
theorem cityAt_of {G : Cx} {h h1 : List va_E} {a : Nat} {u : Cv} (e : ∀ k, a ≤ k ∧ k ≤ a + 2 → h1[k]? = h[k]?) (H : cityAt G h a u) : cityAt G h1 a u := ⟨(e a (by omega)).trans H.1, (e _ (by omega)).trans H.2.1, (e _ (by omega)).trans H.2.2.1, H.2.2.2⟩
theorem WQ.put {i : Nat} {u u' x' : Cv} (hi : i < 5) (H : WQ G h0 h v X F s) (hc : cityAt G h (33 + 3 * i) u) (ok : okC u') (hs : SC u' x') : WQ G h0 (putC G h (33 + 3 * i) u') v (upX X i x') F s := by
  obtain ⟨a1, a2, a3, a4, a5, a6, a7, a8⟩ := H
  refine ⟨a1.trans (FR.hx HX.put (by omega)), putC_far (by omega) a2, LawOK_put (by omega) a3, (putC_out (by omega)).trans a4, (putC_out (by omega)).trans a5, (putC_out (by omega)).trans a6, (putC_out (by omega)).trans a7, fun j hj => ?_⟩
  show ∃ u, cityAt G _ (33 + 3 * j) u ∧ SC u (if j = i then x' else X j)
  by_cases e : j = i
  · subst e
    rw [if_pos rfl]
    exact ⟨u', putC_at hc ok, hs⟩
  · rw [if_neg e]
    obtain ⟨w, hw, hx⟩ := a8 j hj
    exact ⟨w, putC_far (by omega) hw, hx⟩
theorem WQ.cell {k : Nat} {e : va_E} {s' : Wk} (H : WQ G h0 h v X F s) (hk : k = 29 ∨ k = 31 ∨ k = 32) (b1 : (h.set k e)[29]? = some (wkob G s')) (b2 : (h.set k e)[31]? = some (ints G 4 s'.1)) (b3 : (h.set k e)[32]? = some (ints G 4 s'.2.1)) : WQ G h0 (h.set k e) v X F s' := by
  obtain ⟨a1, a2, a3, a4, a5, a6, a7, a8⟩ := H
  refine ⟨a1.trans (FR.set (by omega)), cityAt_of (fun j hj => hs_ne (by omega) rfl) a2, LawOK_cell (by omega) a3, b1, hs_ne (by omega) a5, b2, b3, fun j hj => ?_⟩
  obtain ⟨w, hw, hx⟩ := a8 j hj
  exact ⟨w, cityAt_of (fun k1 hk1 => hs_ne (by omega) rfl) hw, hx⟩
theorem w_copy0 (hd : 2 ≤ d) (hz : gz G = false) (H : WQ G h0 h v X F s) (k : ∀ h1, WQ G h0 h1 v (upX X 0 v) F s → Q none h1) : AM G yX0_copy cX0_copy 2 none d 0 0 [.ref (gB G + 33), .ref (gB G + 1)] h Q := by
  obtain ⟨u, hu, hs⟩ := H.2.2.2.2.2.2.2 0 (by decide)
  exact x_copy hd hz hu H.2.1 (by omega) (k _ (H.put (i := 0) (by decide) hu (okC_copy hu.2.2.2 H.ok) ⟨rfl, rfl, rfl, rfl, rfl⟩))
theorem w_copy {i : Nat} (hi : i < 4) (hd : 2 ≤ d) (hz : gz G = false) (H : WQ G h0 h v X F s) (k : ∀ h1, WQ G h0 h1 v (upX X (i + 1) (X i)) F s → Q none h1) : AM G yX0_copy cX0_copy 2 none d 0 0 [.ref (gB G + (33 + 3 * (i + 1))), .ref (gB G + (33 + 3 * i))] h Q := by
  obtain ⟨u, hu, hs⟩ := H.2.2.2.2.2.2.2 (i + 1) (by omega)
  obtain ⟨w, hw, hs2⟩ := H.2.2.2.2.2.2.2 i (by omega)
  exact x_copy hd hz hu hw (by omega) (k _ (H.put (i := i + 1) (by omega) hu (okC_copy hu.2.2.2 hw.2.2.2) ⟨hs2.1, hs2.2.1, hs2.2.2.1, hs2.2.2.2.1, hs2.2.2.2.2⟩))
theorem w_setWax {i r w : Nat} (hi : i < 5) (hd : 2 ≤ d) (hz : gz G = false) (H : WQ G h0 h v X F s) (hr : r < 36) (hw : w ≤ 99) (k : ∀ h1, WQ G h0 h1 v (upX X i (csW (X i) r w)) F s → Q none h1) : AM G yX0_setWax cX0_setWax 3 none d 0 0 [.ref (gB G + (33 + 3 * i)), .int (nI r), .int (nI w)] h Q := by
  obtain ⟨u, hu, hs⟩ := H.2.2.2.2.2.2.2 i hi
  exact x_setWax hd hz hu hr hw (k _ (H.put hi hu (okC_W hu.2.2.2 hr hw) (SC_W hs r w)))
theorem w_hour {i : Nat} (hi : i < 5) (hd : 5 ≤ d) (hz : gz G = false) (H : WQ G h0 h v X F s) (k : ∀ h1, WQ G h0 h1 v (upX X i (chour F (X i))) F s → Q none h1) : AM G yX0_passHour cX0_passHour 7 none d 0 0 [.ref (gB G + (33 + 3 * i)), .ref (gB G + 7)] h Q := by
  obtain ⟨a1, a2, a3, a4, a5, a6, a7, a8⟩ := H
  obtain ⟨u, hu, hs⟩ := a8 i hi
  refine y_passHour hd hz (h0 := h) (v := u) (F := F) ⟨by omega, HX.rfl' _ h, hu, a3⟩ (fun h1 H1 => k h1 ?_)
  obtain ⟨-, b1, b2, b3⟩ := H1
  refine ⟨a1.trans (FR.hx b1 (by omega)), cityX (by omega) (by omega) a2 b1, b3, (b1.2.1 29 (by omega) (by omega) (by omega) (by omega)).trans a4, (b1.2.1 30 (by omega) (by omega) (by omega) (by omega)).trans a5, (b1.2.1 31 (by omega) (by omega) (by omega) (by omega)).trans a6, (b1.2.1 32 (by omega) (by omega) (by omega) (by omega)).trans a7, fun j hj => ?_⟩
  show ∃ u, cityAt G _ (33 + 3 * j) u ∧ SC u (if j = i then chour F (X i) else X j)
  by_cases e : j = i
  · subst e
    rw [if_pos rfl]
    exact ⟨_, b2, by rw [chour_SC hs]; exact SC.refl _⟩
  · rw [if_neg e]
    obtain ⟨w, hw, hx⟩ := a8 j hj
    exact ⟨w, cityX (by omega) (by omega) hw b1, hx⟩
theorem w_isDark {i r : Nat} (hi : i < 5) (hd : 1 ≤ d) (hz : gz G = false) (H : WQ G h0 h v X F s) (hr : r < 36) (k : Q (some (.int (bI (cK (X i) r)))) h) : AM G yX0_isDark cX0_isDark 2 (some .boolean) d 0 0 [.ref (gB G + (33 + 3 * i)), .int (nI r)] h Q := by
  obtain ⟨u, hu, hs⟩ := H.2.2.2.2.2.2.2 i hi
  exact x_isDark hd hz hu hr (by rw [hs.2.2.1]; exact k)
theorem w_darkCount {i : Nat} (hi : i < 5) (hd : 2 ≤ d) (hz : gz G = false) (H : WQ G h0 h v X F s) (k : Q (some (.int (nI (ctn (cK (X i)) 36)))) h) : AM G yX0_darkCount cX0_darkCount 1 (some .int) d 0 0 [.ref (gB G + (33 + 3 * i))] h Q := by
  obtain ⟨u, hu, hs⟩ := H.2.2.2.2.2.2.2 i hi
  exact x_darkCount hd hz hu (by rw [hs.2.2.1]; exact k)
end WQs
/-- beside a room, or the room itself -/
def bes5 (r w : Nat) : Option Nat := if w = 4 then some r else bsd r w
theorem b5_0 (r : Nat) : bes5 r 0 = if r < 6 then none else some (r - 6) := rfl
theorem b5_1 (r : Nat) : bes5 r 1 = if r % 6 = 5 then none else some (r + 1) := rfl
theorem b5_2 (r : Nat) : bes5 r 2 = if r < 30 then some (r + 6) else none := rfl
theorem b5_3 (r : Nat) : bes5 r 3 = if r % 6 = 0 then none else some (r - 1) := rfl
theorem sub6_neg : ∀ i : Fin 6, nI i.val - nI 6 < 0 := by decide
theorem bes5_lt {r w o : Nat} (hr : r < 36) (h : bes5 r w = some o) : o < 36 := by
  unfold bes5 at h
  split at h
  · cases h; exact hr
  · exact bsd_lt hr h
set_option maxRecDepth 100000 in
set_option maxHeartbeats 4000000 in
theorem w_beside0 {G : Cx} {d r : Nat} {h : List va_E} {Q : Option Value → List va_E → Prop} (hd : 1 ≤ d) (hz : gz G = false) (hr : r < 36) (k1 : ∀ o, bes5 r 0 = some o → Q (some (.int (nI o))) h) (k0 : bes5 r 0 = none → ∀ y : Int32, y < 0 → Q (some (.int y)) h) : AM G yX9_beside cX9_beside 3 (some .int) d 0 0 [.int (nI (r)), .int (nI (0))] h Q := by
  obtain ⟨d, rfl, he⟩ := dpos hd
  refine AM.of [some (.int (nI (r))), some (.int (nI (0))), none] pnX9 (Nat.le_of_ble_eq_true rfl) (by simp [lsub, lvI, Value.category]) ?_
  refine a_iloadn_0 (pc := 0) dX9_beside_0 ?_
  refine a_bipush (pc := 1) (v := nI 6) dX9_beside_1 (by decide) ?_
  refine n_irem dX9_beside_3 (by omega) (by decide) (by decide) ?_
  refine a_istoren_2 (pc := 4) dX9_beside_4 (by decide) (by first | rfl | trivial) ?_
  refine a_iloadn_1 (pc := 5) dX9_beside_5 ?_
  refine a_tableIn (pc := 6) (off := 30) (tgt := 36) dX9_beside_6 (by decide) (by decide) (by decide) (by decide) ?_
  refine a_iloadn_0 (pc := 36) dX9_beside_36 ?_
  refine a_bipush (pc := 37) (v := nI 6) dX9_beside_37 (by decide) ?_
  refine a_isub (pc := 39) dX9_beside_39 ?_
  refine a_iret (pc := 40) dX9_beside_40 rfl (zf hz) ?_
  rcases Nat.lt_or_ge r 6 with z | z
  · exact k0 ((b5_0 r).trans (if_pos z)) _ (sub6_neg ⟨r, z⟩)
  · rw [pk_sub z]; exact k1 _ ((b5_0 r).trans (if_neg (by omega)))
set_option maxRecDepth 100000 in
set_option maxHeartbeats 4000000 in
theorem w_beside1 {G : Cx} {d r : Nat} {h : List va_E} {Q : Option Value → List va_E → Prop} (hd : 1 ≤ d) (hz : gz G = false) (hr : r < 36) (k1 : ∀ o, bes5 r 1 = some o → Q (some (.int (nI o))) h) (k0 : bes5 r 1 = none → ∀ y : Int32, y < 0 → Q (some (.int y)) h) : AM G yX9_beside cX9_beside 3 (some .int) d 0 0 [.int (nI (r)), .int (nI (1))] h Q := by
  obtain ⟨d, rfl, he⟩ := dpos hd
  refine AM.of [some (.int (nI (r))), some (.int (nI (1))), none] pnX9 (Nat.le_of_ble_eq_true rfl) (by simp [lsub, lvI, Value.category]) ?_
  refine a_iloadn_0 (pc := 0) dX9_beside_0 ?_
  refine a_bipush (pc := 1) (v := nI 6) dX9_beside_1 (by decide) ?_
  refine n_irem dX9_beside_3 (by omega) (by decide) (by decide) ?_
  refine a_istoren_2 (pc := 4) dX9_beside_4 (by decide) (by first | rfl | trivial) ?_
  refine a_iloadn_1 (pc := 5) dX9_beside_5 ?_
  refine a_tableIn (pc := 6) (off := 35) (tgt := 41) dX9_beside_6 (by decide) (by decide) (by decide) (by decide) ?_
  refine a_iloadn_2 (pc := 41) dX9_beside_41 ?_
  refine a_iconst (pc := 42) (v := nI 5) dX9_beside_42 (by decide) ?_
  refine n_icmp_ge (tgt := 52) dX9_beside_43 (by decide) (by omega) (by decide) (fun c_43 => ?_) (fun c_43 => ?_)
  · refine a_iconst (pc := 52) (v := (-1)) dX9_beside_52 (by decide) ?_
    exact a_iret (pc := 53) dX9_beside_53 rfl (zf hz) (k0 ((b5_1 r).trans (if_pos (by omega))) _ (by decide))
  · refine a_iloadn_0 (pc := 46) dX9_beside_46 ?_
    refine a_iconst (pc := 47) (v := nI 1) dX9_beside_47 (by decide) ?_
    refine n_iadd dX9_beside_48 ?_
    refine a_goto (pc := 49) (tgt := 53) dX9_beside_49 (by decide) ?_
    exact a_iret (pc := 53) dX9_beside_53 rfl (zf hz) (k1 _ ((b5_1 r).trans (if_neg (by omega))))
set_option maxRecDepth 100000 in
set_option maxHeartbeats 4000000 in
theorem w_beside2 {G : Cx} {d r : Nat} {h : List va_E} {Q : Option Value → List va_E → Prop} (hd : 1 ≤ d) (hz : gz G = false) (hr : r < 36) (k1 : ∀ o, bes5 r 2 = some o → Q (some (.int (nI o))) h) (k0 : bes5 r 2 = none → ∀ y : Int32, y < 0 → Q (some (.int y)) h) : AM G yX9_beside cX9_beside 3 (some .int) d 0 0 [.int (nI (r)), .int (nI (2))] h Q := by
  obtain ⟨d, rfl, he⟩ := dpos hd
  refine AM.of [some (.int (nI (r))), some (.int (nI (2))), none] pnX9 (Nat.le_of_ble_eq_true rfl) (by simp [lsub, lvI, Value.category]) ?_
  refine a_iloadn_0 (pc := 0) dX9_beside_0 ?_
  refine a_bipush (pc := 1) (v := nI 6) dX9_beside_1 (by decide) ?_
  refine n_irem dX9_beside_3 (by omega) (by decide) (by decide) ?_
  refine a_istoren_2 (pc := 4) dX9_beside_4 (by decide) (by first | rfl | trivial) ?_
  refine a_iloadn_1 (pc := 5) dX9_beside_5 ?_
  refine a_tableIn (pc := 6) (off := 48) (tgt := 54) dX9_beside_6 (by decide) (by decide) (by decide) (by decide) ?_
  refine a_iloadn_0 (pc := 54) dX9_beside_54 ?_
  refine a_bipush (pc := 55) (v := nI 6) dX9_beside_55 (by decide) ?_
  refine n_iadd dX9_beside_57 ?_
  refine a_bipush (pc := 58) (v := nI 36) dX9_beside_58 (by decide) ?_
  refine n_icmp_ge (tgt := 70) dX9_beside_60 (by decide) (by omega) (by decide) (fun c_60 => ?_) (fun c_60 => ?_)
  · refine a_iconst (pc := 70) (v := (-1)) dX9_beside_70 (by decide) ?_
    exact a_iret (pc := 71) dX9_beside_71 rfl (zf hz) (k0 ((b5_2 r).trans (if_neg (by omega))) _ (by decide))
  · refine a_iloadn_0 (pc := 63) dX9_beside_63 ?_
    refine a_bipush (pc := 64) (v := nI 6) dX9_beside_64 (by decide) ?_
    refine n_iadd dX9_beside_66 ?_
    refine a_goto (pc := 67) (tgt := 71) dX9_beside_67 (by decide) ?_
    exact a_iret (pc := 71) dX9_beside_71 rfl (zf hz) (k1 _ ((b5_2 r).trans (if_pos (by omega))))
set_option maxRecDepth 100000 in
set_option maxHeartbeats 4000000 in
theorem w_beside3 {G : Cx} {d r : Nat} {h : List va_E} {Q : Option Value → List va_E → Prop} (hd : 1 ≤ d) (hz : gz G = false) (hr : r < 36) (k1 : ∀ o, bes5 r 3 = some o → Q (some (.int (nI o))) h) (k0 : bes5 r 3 = none → ∀ y : Int32, y < 0 → Q (some (.int y)) h) : AM G yX9_beside cX9_beside 3 (some .int) d 0 0 [.int (nI (r)), .int (nI (3))] h Q := by
  obtain ⟨d, rfl, he⟩ := dpos hd
  refine AM.of [some (.int (nI (r))), some (.int (nI (3))), none] pnX9 (Nat.le_of_ble_eq_true rfl) (by simp [lsub, lvI, Value.category]) ?_
  refine a_iloadn_0 (pc := 0) dX9_beside_0 ?_
  refine a_bipush (pc := 1) (v := nI 6) dX9_beside_1 (by decide) ?_
  refine n_irem dX9_beside_3 (by omega) (by decide) (by decide) ?_
  refine a_istoren_2 (pc := 4) dX9_beside_4 (by decide) (by first | rfl | trivial) ?_
  refine a_iloadn_1 (pc := 5) dX9_beside_5 ?_
  refine a_tableIn (pc := 6) (off := 66) (tgt := 72) dX9_beside_6 (by decide) (by decide) (by decide) (by decide) ?_
  refine a_iloadn_2 (pc := 72) dX9_beside_72 ?_
  refine n_if_le (tgt := 82) dX9_beside_73 (by decide) (by omega) (fun c_73 => ?_) (fun c_73 => ?_)
  · refine a_iconst (pc := 82) (v := (-1)) dX9_beside_82 (by decide) ?_
    exact a_iret (pc := 83) dX9_beside_83 rfl (zf hz) (k0 ((b5_3 r).trans (if_pos (by omega))) _ (by decide))
  · refine a_iloadn_0 (pc := 76) dX9_beside_76 ?_
    refine a_iconst (pc := 77) (v := nI 1) dX9_beside_77 (by decide) ?_
    refine n_isub dX9_beside_78 (by omega) ?_
    refine a_goto (pc := 79) (tgt := 83) dX9_beside_79 (by decide) ?_
    exact a_iret (pc := 83) dX9_beside_83 rfl (zf hz) (k1 _ ((b5_3 r).trans (if_neg (by omega))))
set_option maxRecDepth 100000 in
set_option maxHeartbeats 4000000 in
theorem w_beside4 {G : Cx} {d r : Nat} {h : List va_E} {Q : Option Value → List va_E → Prop} (hd : 1 ≤ d) (hz : gz G = false) (hr : r < 36) (k1 : ∀ o, bes5 r 4 = some o → Q (some (.int (nI o))) h) (k0 : bes5 r 4 = none → ∀ y : Int32, y < 0 → Q (some (.int y)) h) : AM G yX9_beside cX9_beside 3 (some .int) d 0 0 [.int (nI (r)), .int (nI (4))] h Q := by
  obtain ⟨d, rfl, he⟩ := dpos hd
  refine AM.of [some (.int (nI (r))), some (.int (nI (4))), none] pnX9 (Nat.le_of_ble_eq_true rfl) (by simp [lsub, lvI, Value.category]) ?_
  refine a_iloadn_0 (pc := 0) dX9_beside_0 ?_
  refine a_bipush (pc := 1) (v := nI 6) dX9_beside_1 (by decide) ?_
  refine n_irem dX9_beside_3 (by omega) (by decide) (by decide) ?_
  refine a_istoren_2 (pc := 4) dX9_beside_4 (by decide) (by first | rfl | trivial) ?_
  refine a_iloadn_1 (pc := 5) dX9_beside_5 ?_
  refine a_tableOut (pc := 6) (tgt := 84) dX9_beside_6 (by decide) (by decide) ?_
  refine a_iloadn_0 (pc := 84) dX9_beside_84 ?_
  exact a_iret (pc := 85) dX9_beside_85 rfl (zf hz) (k1 _ rfl)
