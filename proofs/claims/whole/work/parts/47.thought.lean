/-! THOUGHT: the city behind some hours (26), laid on now (1) -/
def SC (u x : Cv) : Prop := cW u = cW x ∧ cG u = cG x ∧ cK u = cK x ∧ cC u = cC x ∧ u.2.2.2.2.1 = x.2.2.2.2.1
theorem SC.refl (u : Cv) : SC u u := ⟨rfl, rfl, rfl, rfl, rfl⟩
theorem chour_SC {F : Lf} {u x : Cv} (h : SC u x) : chour F u = chour F x := by
  obtain ⟨W, Gd, K, C, B, E⟩ := u
  obtain ⟨W', Gd', K', C', B', E'⟩ := x
  obtain ⟨rfl, rfl, rfl, rfl, rfl⟩ := h
  rfl
theorem hrs_SC {F : Lf} {u x : Cv} (h : SC u x) : ∀ n, SC (hrs F n u) (hrs F n x)
  | 0 => h
  | n + 1 => by rw [hrs, hrs, chour_SC (hrs_SC h n)]; exact SC.refl _
theorem SC_W {u x : Cv} (h : SC u x) (r w : Nat) : SC (csW u r w) (csW x r w) := ⟨by show va_up (cW u) r w = _; rw [h.1], h.2⟩
theorem SC_T {u x : Cv} (h : SC u x) (r k w : Nat) : SC (cTell u r k w) (cTell x r k w) := by
  obtain ⟨W, Gd, K, C, B, E⟩ := u
  obtain ⟨W', Gd', K', C', B', E'⟩ := x
  obtain ⟨rfl, rfl, rfl, rfl, rfl⟩ := h
  match k with
  | 0 => exact ⟨rfl, rfl, rfl, rfl, rfl⟩
  | 1 => exact ⟨rfl, rfl, rfl, rfl, rfl⟩
  | 2 => exact ⟨rfl, rfl, rfl, rfl, rfl⟩
  | 3 => exact ⟨rfl, rfl, rfl, rfl, rfl⟩
  | 4 => exact ⟨rfl, rfl, rfl, rfl, rfl⟩
  | 5 => exact ⟨rfl, rfl, rfl, rfl, rfl⟩
  | k + 6 => exact ⟨rfl, rfl, rfl, rfl, rfl⟩
/-- what lies outside lo .. hi stays (but for the law's own rows) -/
def FR (lo hi : Nat) (h h' : List va_E) : Prop := h'.length = h.length ∧ (∀ k, (k < lo ∨ hi < k) → k ≠ 12 → k ≠ 15 → k ≠ 22 → h'[k]? = h[k]?) ∧ ∀ (k : Nat) (c : ClassId) (n : Nat) (f : Nat → Int32), (k < lo ∨ hi < k) → h[k]? = some (.inl (c, n, .inl f)) → ∃ f', h'[k]? = some (.inl (c, n, .inl f'))
theorem FR.refl (lo hi : Nat) (h : List va_E) : FR lo hi h h := ⟨rfl, fun _ _ _ _ _ => rfl, fun _ _ _ f _ e => ⟨f, e⟩⟩
theorem FR.trans {lo hi : Nat} {a b c : List va_E} (p : FR lo hi a b) (q : FR lo hi b c) : FR lo hi a c := ⟨q.1.trans p.1, fun k a0 a1 a2 a3 => (q.2.1 k a0 a1 a2 a3).trans (p.2.1 k a0 a1 a2 a3), fun k c n f a0 e => by
  obtain ⟨f1, e1⟩ := p.2.2 k c n f a0 e
  exact q.2.2 k c n f1 a0 e1⟩
theorem FR.hx {lo hi a : Nat} {h h' : List va_E} (p : HX a h h') (h1 : lo ≤ a ∧ a + 2 ≤ hi) : FR lo hi h h' := ⟨p.1, fun k a0 a1 a2 a3 => p.2.1 k (by omega) a1 a2 a3, fun k c n f a0 e => p.2.2 k c n f (by omega) e⟩
theorem FR.hl {lo hi : Nat} {h h' : List va_E} (p : HL h h') : FR lo hi h h' := ⟨p.1, fun k a0 a1 a2 a3 => p.2.1 k a1 a2 a3, fun k c n f a0 e => p.2.2 k c n f e⟩
theorem FR.set {lo hi k : Nat} {h : List va_E} {e : va_E} (hk : lo ≤ k ∧ k ≤ hi) : FR lo hi h (h.set k e) := ⟨by simp, fun j a0 _ _ _ => by rw [List.getElem?_set_ne (by omega)], fun j c n f a0 e1 => ⟨f, by rw [List.getElem?_set_ne (by omega)]; exact e1⟩⟩
theorem FR.mono {lo hi lo' hi' : Nat} {h h' : List va_E} (p : FR lo hi h h') (h1 : lo' ≤ lo ∧ hi ≤ hi') : FR lo' hi' h h' := ⟨p.1, fun k a0 a1 a2 a3 => p.2.1 k (by omega) a1 a2 a3, fun k c n f a0 e => p.2.2 k c n f (by omega) e⟩
abbrev tob (G : Cx) (s : Nat × Nat × Int32) : va_E := .inr (7, [.ref (gB G + 1), .ref (gB G + 7), .ref (gB G + 26), .int (nI s.1), .int (nI s.2.1), .int s.2.2])
def TQ (G : Cx) (h0 h : List va_E) (v x : Cv) (F : Lf) (s : Nat × Nat × Int32) : Prop := FR 25 28 h0 h ∧ cityAt G h 1 v ∧ LawOK G h F ∧ h[25]? = some (tob G s) ∧ ∃ u, cityAt G h 26 u ∧ SC u x
section TQs
variable {G : Cx} {h0 h : List va_E} {v x : Cv} {F : Lf} {s : Nat × Nat × Int32} {d : Nat} {Q : Option Value → List va_E → Prop}
theorem TQ.th (H : TQ G h0 h v x F s) : h[25]? = some (tob G s) := H.2.2.2.1
theorem TQ.now (H : TQ G h0 h v x F s) : cityAt G h 1 v := H.2.1
theorem TQ.c1 (H : TQ G h0 h v x F s) : h[1]? = some (cObj G 1 v) := H.2.1.1
theorem TQ.ok (H : TQ G h0 h v x F s) : okC v := H.2.1.2.2.2
theorem TQ.c26 (H : TQ G h0 h v x F s) : ∃ fs, h[26]? = some (.inr (0, fs)) := by
  obtain ⟨_, _, _, _, u, hu, _⟩ := H
  exact ⟨_, hu.1⟩
theorem TQ.put {u u' x' : Cv} (H : TQ G h0 h v x F s) (hc : cityAt G h 26 u) (ok : okC u') (hs : SC u' x') : TQ G h0 (putC G h 26 u') v x' F s := by
  obtain ⟨a1, a2, a3, a4, -⟩ := H
  exact ⟨a1.trans (FR.hx HX.put (by omega)), putC_far (by omega) a2, LawOK_put (by omega) a3, (putC_out (by omega)).trans a4, u', putC_at hc ok, hs⟩
theorem q_copy (hd : 2 ≤ d) (hz : gz G = false) (H : TQ G h0 h v x F s) (k : ∀ h1, TQ G h0 h1 v v F s → Q none h1) : AM G yX0_copy cX0_copy 2 none d 0 0 [.ref (gB G + 26), .ref (gB G + 1)] h Q := by
  obtain ⟨u, hu, hs⟩ := H.2.2.2.2
  exact x_copy hd hz hu H.now (by omega) (k _ (H.put hu (okC_copy hu.2.2.2 H.ok) ⟨rfl, rfl, rfl, rfl, rfl⟩))
theorem q_setWax {r w : Nat} (hd : 2 ≤ d) (hz : gz G = false) (H : TQ G h0 h v x F s) (hr : r < 36) (hw : w ≤ 99) (k : ∀ h1, TQ G h0 h1 v (csW x r w) F s → Q none h1) : AM G yX0_setWax cX0_setWax 3 none d 0 0 [.ref (gB G + 26), .int (nI r), .int (nI w)] h Q := by
  obtain ⟨u, hu, hs⟩ := H.2.2.2.2
  exact x_setWax hd hz hu hr hw (k _ (H.put hu (okC_W hu.2.2.2 hr hw) (SC_W hs r w)))
theorem q_addWax {r w : Nat} (hd : 3 ≤ d) (hz : gz G = false) (H : TQ G h0 h v x F s) (hr : r < 36) (hw : w < 1000) (k : ∀ h1, TQ G h0 h1 v (csW x r (min 99 (cW x r + w))) F s → Q none h1) : AM G yX0_addWax cX0_addWax 3 none d 0 0 [.ref (gB G + 26), .int (nI r), .int (nI w)] h Q := by
  obtain ⟨u, hu, hs⟩ := H.2.2.2.2
  refine x_addWax hd hz hu hr hw (k _ (H.put hu (okC_W hu.2.2.2 hr (by omega)) ?_))
  rw [hs.1]
  exact SC_W hs r _
theorem q_tell {r w c : Nat} (hd : 3 ≤ d) (hz : gz G = false) (H : TQ G h0 h v x F s) (hw : w ≤ 6) (hr : w ≤ 3 → r < 36) (hx : mayN w c) (k : ∀ h1, TQ G h0 h1 v (cTell x r w c) F s → Q none h1) : AM G yX0_tell cX0_tell 4 none d 0 0 [.ref (gB G + 26), .int (nI r), .int (nI w), .int (nI c)] h Q := by
  obtain ⟨u, hu, hs⟩ := H.2.2.2.2
  exact x_tell hd hz hu hw hr hx (k _ (H.put hu (okC_tell hu.2.2.2 hw hr hx) (SC_T hs r w c)))
theorem q_hour (hd : 5 ≤ d) (hz : gz G = false) (H : TQ G h0 h v x F s) (k : ∀ h1, TQ G h0 h1 v (chour F x) F s → Q none h1) : AM G yX0_passHour cX0_passHour 7 none d 0 0 [.ref (gB G + 26), .ref (gB G + 7)] h Q := by
  obtain ⟨a1, a2, a3, a4, u, hu, hs⟩ := H
  refine y_passHour hd hz (h0 := h) (v := u) (F := F) ⟨by omega, HX.rfl' 26 h, hu, a3⟩ (fun h1 H1 => k h1 ?_)
  obtain ⟨-, b1, b2, b3⟩ := H1
  exact ⟨a1.trans (FR.hx b1 (by omega)), cityX (by omega) (by omega) a2 b1, b3, (b1.2.1 25 (by omega) (by omega) (by omega) (by omega)).trans a4, _, b2, by rw [chour_SC hs]; exact SC.refl _⟩
theorem q_isDark {r : Nat} (hd : 1 ≤ d) (hz : gz G = false) (H : TQ G h0 h v x F s) (hr : r < 36) (k : Q (some (.int (bI (cK x r)))) h) : AM G yX0_isDark cX0_isDark 2 (some .boolean) d 0 0 [.ref (gB G + 26), .int (nI r)] h Q := by
  obtain ⟨u, hu, hs⟩ := H.2.2.2.2
  exact x_isDark hd hz hu hr (by rw [hs.2.2.1]; exact k)
theorem q_darkCount (hd : 2 ≤ d) (hz : gz G = false) (H : TQ G h0 h v x F s) (k : Q (some (.int (nI (ctn (cK x) 36)))) h) : AM G yX0_darkCount cX0_darkCount 1 (some .int) d 0 0 [.ref (gB G + 26)] h Q := by
  obtain ⟨u, hu, hs⟩ := H.2.2.2.2
  exact x_darkCount hd hz hu (by rw [hs.2.2.1]; exact k)
theorem q_darkChildren (hd : 2 ≤ d) (hz : gz G = false) (H : TQ G h0 h v x F s) (k : Q (some (.int (nI (ctn (fun r => cK x r && cC x r) 36)))) h) : AM G yX0_darkChildren cX0_darkChildren 1 (some .int) d 0 0 [.ref (gB G + 26)] h Q := by
  obtain ⟨u, hu, hs⟩ := H.2.2.2.2
  exact x_darkChildren hd hz hu (by rw [hs.2.2.1, hs.2.2.2.1]; exact k)
theorem q_numberOf {r w : Nat} (hd : 1 ≤ d) (hz : gz G = false) (H : TQ G h0 h v x F s) (hw : w ≤ 3) (hr : r < 36) (k : Q (some (.int (nI (cNum x r w)))) h) : AM G yX0_numberOf cX0_numberOf 3 (some .int) d 0 0 [.ref (gB G + 26), .int (nI r), .int (nI w)] h Q := by
  obtain ⟨u, hu, hs⟩ := H.2.2.2.2
  refine x_numberOf hd hz hu (by omega) (fun _ => hr) ?_
  have e : cNum u r w = cNum x r w := by
    rcases (show w = 0 ∨ w = 1 ∨ w = 2 ∨ w = 3 by omega) with rfl | rfl | rfl | rfl
    · show cW u r = cW x r; rw [hs.1]
    · show cG u r = cG x r; rw [hs.2.1]
    · show (cC u r).toNat = (cC x r).toNat; rw [hs.2.2.2.1]
    · show (cK u r).toNat = (cK x r).toNat; rw [hs.2.2.1]
  rw [e]; exact k
end TQs
section TQr
variable {G : Cx} {y : MethodName} {cc : ByteArray} {mL : Nat} {rt : Option FieldType} {R : Room} {Z : List Frame → Array Value → State → State → Prop} {cn sn pc : Nat} {ls : List (Option Value)} {st : List Value} {h h0 : List va_E} {v x : Cv} {F : Lf} {s : Nat × Nat × Int32}
theorem tq_41 (H : TQ G h0 h v x F s) (ho : y.cls = RX7) (hd : decode cc pc = .ok (.getfield 41, 3)) (kk : AW G y cc mL rt R Z cn sn (pc + 3) ls (.long (bL (cK x)) :: st) h) : AW G y cc mL rt R Z cn sn pc ls (.ref (gB G + 26) :: st) h := by
  obtain ⟨u, hu, hs⟩ := H.2.2.2.2
  exact gf_X7_41 ho hd hu.1 (by rw [hs.2.2.1]; exact kk)
end TQr
theorem pnX7 : plainName RX7 = true := by decide
theorem pnX6 : plainName RX6 = true := by decide
theorem pnX11 : plainName RX11 = true := by decide
/-- a shelf at q: its places behind it -/
abbrev shO (G : Cx) (q : Nat) (sc : Int32) (rw : Bool) (so sz : Nat) : va_E := .inr (6, [.ref (gB G + (q + 1)), .int sc, .int (bI rw), .int (nI so), .int (nI sz)])
def shAt (G : Cx) (h : List va_E) (q : Nat) (sc : Int32) (rw : Bool) (so sz : Nat) (el : Nat → Int64) : Prop := h[q]? = some (shO G q sc rw so sz) ∧ h[q + 1]? = some (.inl (gc G 1, 60, .inr (.inl el))) ∧ sz ≤ 60
theorem shAt_of {G : Cx} {h h1 : List va_E} {q : Nat} {sc : Int32} {rw : Bool} {so sz : Nat} {el : Nat → Int64} (H : shAt G h q sc rw so sz el) (e0 : h1[q]? = h[q]?) (e1 : h1[q + 1]? = h[q + 1]?) : shAt G h1 q sc rw so sz el := ⟨e0.trans H.1, e1.trans H.2.1, H.2.2⟩
theorem alive_fs {F : Lf} {r : Nat} {u : Cv} {P : Nat → Bool} (hP : ∀ i, P i = cK (hrs F i u) r) (t : Nat) (ht : t < 1000) : fsrch P (t + 1) 0 = -2 ↔ alive F r u t = true := by
  have ne : ∀ n : Nat, n < 2147483648 → ¬ nI n = -2 := by
    intro n hn q
    have h2 : (nI n).toInt = (-2 : Int32).toInt := by rw [q]
    rw [nI_toInt hn] at h2
    have : (-2 : Int32).toInt = -2 := by decide
    omega
  have key : ∀ t, alive F r u t = true ↔ ∀ i, i ≤ t → P i = false := by
    intro t
    induction t with
    | zero =>
      rw [alive]
      constructor
      · intro h i hi
        obtain rfl : i = 0 := by omega
        rw [hP]
        show cK u r = false
        simpa using h
      · intro h
        have := h 0 (Nat.le_refl _)
        rw [hP] at this
        have this : cK u r = false := this
        rw [this]; rfl
    | succ t ih =>
      rw [alive, Bool.and_eq_true, ih]
      constructor
      · rintro ⟨h1, h2⟩ i hi
        by_cases e : i = t + 1
        · rw [e, hP]; simpa using h2
        · exact h1 i (by omega)
      · intro h
        refine ⟨fun i hi => h i (by omega), ?_⟩
        have := h (t + 1) (Nat.le_refl _)
        rw [hP] at this
        rw [this]; rfl
  rw [key t]
  have gen : ∀ m i, i + m < 2147483648 → (fsrch P m i = -2 ↔ ∀ j, i ≤ j → j < i + m → P j = false) := by
    intro m
    induction m with
    | zero => intro i _; exact ⟨fun _ j h1 h2 => absurd h2 (by omega), fun _ => rfl⟩
    | succ m ih =>
      intro i hi
      rw [fsrch]
      cases hp : P i with
      | true =>
        rw [if_pos rfl]
        exact ⟨fun q => absurd q (ne i (by omega)), fun q => by have := q i (Nat.le_refl _) (by omega); rw [hp] at this; cases this⟩
      | false =>
        rw [if_neg (by simp), ih (i + 1) (by omega)]
        constructor
        · intro q j h1 h2
          by_cases e : j = i
          · rw [e]; exact hp
          · exact q j (by omega) (by omega)
        · intro q j h1 h2; exact q j (by omega) (by omega)
  rw [gen (t + 1) 0 (by omega)]
  exact ⟨fun q i hi => q i (Nat.zero_le _) (by omega), fun q i _ hi => q i (by omega)⟩
set_option maxRecDepth 100000 in
set_option maxHeartbeats 4000000 in
theorem q_behind {G : Cx} {d : Nat} {h h0 : List va_E} {v x : Cv} {F : Lf} {s : Nat × Nat × Int32} {Q : Option Value → List va_E → Prop} (hd : 7 ≤ d) (hz : gz G = false) (hm : TQ G h0 h v x F s) {m : Nat} (hm9 : m < 1000) (k : ∀ h1, TQ G h0 h1 v (hrs F m v) F s → Q (some (.ref (gB G + 26))) h1) : AM G yX7_behind cX7_behind 3 (some (.object "NightGarrison$City")) d 0 0 [.ref (gB G + 25), .int (nI (m))] h Q := by
  obtain ⟨d, rfl, he⟩ := dpos hd
  have lp : ∀ (n : Nat) (i : Nat) (h1 : List va_E), m - i < n → (i ≤ m) → (TQ G h0 h1 v (hrs F i v) F s) → AW G yX7_behind cX7_behind 3 (some (.object "NightGarrison$City")) (rmx (d + 1) 0 0) (ZQ G 0 0 (h.length + 0) Q) 0 0 13 [some (.ref (gB G + 25)), some (.int (nI (m))), some (.int (nI (i)))] [] h1 := by
    intro n
    induction n with
    | zero => intro i h1 hn; exact absurd hn (Nat.not_lt_zero _)
    | succ n ih =>
      intro i h1 hn hi hm1
      refine a_iloadn_2 (pc := 13) dX7_behind_13 ?_
      refine a_iloadn_1 (pc := 14) dX7_behind_14 ?_
      refine n_icmp_ge (tgt := 35) dX7_behind_15 (by decide) (by omega) (by omega) (fun c_15 => ?_) (fun c_15 => ?_)
      · refine a_aloadn_0 (pc := 35) dX7_behind_35 ?_
        refine gf_X7_12 (pc := 36) rfl dX7_behind_36 hm1.th ?_
        exact a_aret (pc := 39) dX7_behind_39 rfl (zf hz) (k _ (by rw [show m = i by omega]; exact hm1))
      · refine a_aloadn_0 (pc := 18) dX7_behind_18 ?_
        refine gf_X7_12 (pc := 19) rfl dX7_behind_19 hm1.th ?_
        refine a_aloadn_0 (pc := 22) dX7_behind_22 ?_
        refine gf_X7_21 (pc := 23) rfl dX7_behind_23 hm1.th ?_
        refine cv_X7_29 (pc := 26) rfl dX7_behind_26 hm1.c26.choose_spec (Nat.le_of_ble_eq_true rfl) ?_
        refine q_hour (by omega) hz hm1 (fun h3 hm3 => ?_)
        refine a_iinc_2 (pc := 29) (v := nI (i + 1)) dX7_behind_29 (nI_add _ _) (by decide) (by first | rfl | trivial) ?_
        refine a_goto (pc := 32) (tgt := 13) dX7_behind_32 (by decide) ?_
        exact ih (i + 1) _ (by omega) (by omega) hm3
  refine AM.of [some (.ref (gB G + 25)), some (.int (nI (m))), none] pnX7 (Nat.le_of_ble_eq_true rfl) (by simp [lsub, lvI, Value.category]) ?_
  refine a_aloadn_0 (pc := 0) dX7_behind_0 ?_
  refine gf_X7_12 (pc := 1) rfl dX7_behind_1 hm.th ?_
  refine a_aloadn_0 (pc := 4) dX7_behind_4 ?_
  refine gf_X7_18 (pc := 5) rfl dX7_behind_5 hm.th ?_
  refine cv_X7_25 (pc := 8) rfl dX7_behind_8 hm.c26.choose_spec (Nat.le_of_ble_eq_true rfl) ?_
  refine q_copy (by omega) hz hm (fun h1 hm1 => ?_)
  refine a_iconst (pc := 11) (v := nI 0) dX7_behind_11 (by decide) ?_
  refine a_istoren_2 (pc := 12) dX7_behind_12 (by decide) (by first | rfl | trivial) ?_
  exact lp (m + 1) 0 _ (by omega) (by omega) hm1
set_option maxRecDepth 100000 in
set_option maxHeartbeats 4000000 in
theorem q_darkWithin {G : Cx} {d : Nat} {h h0 : List va_E} {v x : Cv} {F : Lf} {s : Nat × Nat × Int32} {Q : Option Value → List va_E → Prop} (hd : 7 ≤ d) (hz : gz G = false) (hm : TQ G h0 h v x F s) {r m : Nat} (hr : r < 36) (hm9 : m < 1000) (k : ∀ y h1 x1, y = fsrch (fun n => cK (hrs F n x) r) (m + 1) 0 → TQ G h0 h1 v x1 F s → Q (some (.int y)) h1) : AM G yX7_darkWithin cX7_darkWithin 4 (some .int) d 0 0 [.ref (gB G + 25), .int (nI (r)), .int (nI (m))] h Q := by
  obtain ⟨d, rfl, he⟩ := dpos hd
  obtain ⟨P, hP⟩ : ∃ P : Nat → Bool, P = fun n => cK (hrs F n x) r := ⟨_, rfl⟩
  obtain ⟨S, hSS⟩ : ∃ S, S = fsrch P (m + 1) 0 := ⟨_, rfl⟩
  have k : ∀ y h1 x1, y = S → TQ G h0 h1 v x1 F s → Q (some (.int y)) h1 := fun y h1 x1 e => k y h1 x1 (by rw [e, hSS, hP])
  have hPe : ∀ i, P i = cK (hrs F i x) r := fun i => by rw [hP]
  have lp : ∀ (n : Nat) (i : Nat) (h1 : List va_E), m - i < n → (i ≤ m) → (fsrch P (m + 1 - i) i = S) → (TQ G h0 h1 v (hrs F i x) F s) → AW G yX7_darkWithin cX7_darkWithin 4 (some .int) (rmx (d + 1) 0 0) (ZQ G 0 0 (h.length + 0) Q) 0 0 2 [some (.ref (gB G + 25)), some (.int (nI (r))), some (.int (nI (m))), some (.int (nI (i)))] [] h1 := by
    intro n
    induction n with
    | zero => intro i h1 hn; exact absurd hn (Nat.not_lt_zero _)
    | succ n ih =>
      intro i h1 hn hi hS hm1
      refine a_iloadn_3 (pc := 2) dX7_darkWithin_2 ?_
      refine a_iloadn_2 (pc := 3) dX7_darkWithin_3 ?_
      refine n_icmp_ge (tgt := 37) dX7_darkWithin_4 (by decide) (by omega) (by omega) (fun c_4 => ?_) (fun c_4 => ?_)
      · have him : i = m := by omega
        refine a_aloadn_0 (pc := 37) dX7_darkWithin_37 ?_
        refine gf_X7_12 (pc := 38) rfl dX7_darkWithin_38 hm1.th ?_
        refine a_iloadn_1 (pc := 41) dX7_darkWithin_41 ?_
        refine cv_X7_37 (pc := 42) rfl dX7_darkWithin_42 hm1.c26.choose_spec (Nat.le_of_ble_eq_true rfl) ?_
        refine q_isDark (by omega) hz hm1 (by omega) ?_
        refine b_if_eq (pc := 45) (tgt := 52) dX7_darkWithin_45 (by decide) (fun c_45 => ?_) (fun c_45 => ?_)
        · refine a_bipush (pc := 52) (v := (-2)) dX7_darkWithin_52 (by decide) ?_
          exact a_iret (pc := 54) dX7_darkWithin_54 rfl (zf hz) (k _ _ _ (by rw [← hS, fs_miss (by omega) ((hPe i).trans c_45), fs_end (by omega)]) hm1)
        · refine a_iloadn_2 (pc := 48) dX7_darkWithin_48 ?_
          refine a_goto (pc := 49) (tgt := 54) dX7_darkWithin_49 (by decide) ?_
          exact a_iret (pc := 54) dX7_darkWithin_54 rfl (zf hz) (k _ _ _ (by rw [← hS, fs_hit (by omega) ((hPe i).trans c_45), him]) hm1)
      · refine a_aloadn_0 (pc := 7) dX7_darkWithin_7 ?_
        refine gf_X7_12 (pc := 8) rfl dX7_darkWithin_8 hm1.th ?_
        refine a_iloadn_1 (pc := 11) dX7_darkWithin_11 ?_
        refine cv_X7_37 (pc := 12) rfl dX7_darkWithin_12 hm1.c26.choose_spec (Nat.le_of_ble_eq_true rfl) ?_
        refine q_isDark (by omega) hz hm1 (by omega) ?_
        refine b_if_eq (pc := 15) (tgt := 20) dX7_darkWithin_15 (by decide) (fun c_15 => ?_) (fun c_15 => ?_)
        · refine a_aloadn_0 (pc := 20) dX7_darkWithin_20 ?_
          refine gf_X7_12 (pc := 21) rfl dX7_darkWithin_21 hm1.th ?_
          refine a_aloadn_0 (pc := 24) dX7_darkWithin_24 ?_
          refine gf_X7_21 (pc := 25) rfl dX7_darkWithin_25 hm1.th ?_
          refine cv_X7_29 (pc := 28) rfl dX7_darkWithin_28 hm1.c26.choose_spec (Nat.le_of_ble_eq_true rfl) ?_
          refine q_hour (by omega) hz hm1 (fun h3 hm3 => ?_)
          refine a_iinc_3 (pc := 31) (v := nI (i + 1)) dX7_darkWithin_31 (nI_add _ _) (by decide) (by first | rfl | trivial) ?_
          refine a_goto (pc := 34) (tgt := 2) dX7_darkWithin_34 (by decide) ?_
          exact ih (i + 1) _ (by omega) (by omega) (by rw [← hS]; exact (fs_miss (by omega) ((hPe i).trans c_15)).symm) hm3
        · refine a_iloadn_3 (pc := 18) dX7_darkWithin_18 ?_
          exact a_iret (pc := 19) dX7_darkWithin_19 rfl (zf hz) (k _ _ _ (by rw [← hS]; exact (fs_hit (by omega) ((hPe i).trans c_15)).symm) hm1)
  refine AM.of [some (.ref (gB G + 25)), some (.int (nI (r))), some (.int (nI (m))), none] pnX7 (Nat.le_of_ble_eq_true rfl) (by simp [lsub, lvI, Value.category]) ?_
  refine a_iconst (pc := 0) (v := nI 0) dX7_darkWithin_0 (by decide) ?_
  refine a_istoren_3 (pc := 1) dX7_darkWithin_1 (by decide) (by first | rfl | trivial) ?_
  exact lp (m + 1) 0 _ (by omega) (by omega) hSS.symm hm
set_option maxRecDepth 100000 in
set_option maxHeartbeats 4000000 in
theorem q_firstDark {G : Cx} {d : Nat} {h h0 : List va_E} {v x : Cv} {F : Lf} {s : Nat × Nat × Int32} {Q : Option Value → List va_E → Prop} (hd : 8 ≤ d) (hz : gz G = false) (hm : TQ G h0 h v x F s) {r : Nat} (hr : r < 36) (k : ∀ y h1 x1, y = fsrch (fun n => cK (hrs F n v) r) 49 0 → TQ G h0 h1 v x1 F s → Q (some (.int y)) h1) : AM G yX7_firstDark cX7_firstDark 2 (some .int) d 0 0 [.ref (gB G + 25), .int (nI (r))] h Q := by
  obtain ⟨d, rfl, he⟩ := dpos hd
  refine AM.of [some (.ref (gB G + 25)), some (.int (nI (r)))] pnX7 (Nat.le_of_ble_eq_true rfl) (by simp [lsub, lvI, Value.category]) ?_
  refine a_aloadn_0 (pc := 0) dX7_firstDark_0 ?_
  refine gf_X7_12 (pc := 1) rfl dX7_firstDark_1 hm.th ?_
  refine a_aloadn_0 (pc := 4) dX7_firstDark_4 ?_
  refine gf_X7_18 (pc := 5) rfl dX7_firstDark_5 hm.th ?_
  refine cv_X7_25 (pc := 8) rfl dX7_firstDark_8 hm.c26.choose_spec (Nat.le_of_ble_eq_true rfl) ?_
  refine q_copy (by omega) hz hm (fun h1 hm1 => ?_)
  refine a_aloadn_0 (pc := 11) dX7_firstDark_11 ?_
  refine a_iloadn_1 (pc := 12) dX7_firstDark_12 ?_
  refine a_bipush (pc := 13) (v := nI 48) dX7_firstDark_13 (by decide) ?_
  refine cv_X7_33 (pc := 15) rfl dX7_firstDark_15 hm1.th (Nat.le_of_ble_eq_true rfl) ?_
  refine q_darkWithin (by omega) hz hm1 (by omega) (by omega) (fun y2 h2 x2 hy2 hm2 => ?_)
  exact a_iret (pc := 18) dX7_firstDark_18 rfl (zf hz) (k _ _ _ hy2 hm2)
set_option maxRecDepth 100000 in
set_option maxHeartbeats 4000000 in
theorem q_firstStill {G : Cx} {d : Nat} {h h0 : List va_E} {v x : Cv} {F : Lf} {s : Nat × Nat × Int32} {Q : Option Value → List va_E → Prop} (hd : 7 ≤ d) (hz : gz G = false) (hm : TQ G h0 h v x F s) (k : ∀ y h1 x1, y = spStill F v → TQ G h0 h1 v x1 F s → Q (some (.int y)) h1) : AM G yX7_firstStill cX7_firstStill 4 (some .int) d 0 0 [.ref (gB G + 25)] h Q := by
  obtain ⟨d, rfl, he⟩ := dpos hd
  obtain ⟨P, hP⟩ : ∃ P : Nat → Bool, P = fun n => decide (bL (cK (hrs F (n + 1) v)) = bL (cK (hrs F n v))) := ⟨_, rfl⟩
  obtain ⟨S, hSS⟩ : ∃ S, S = fsrch P 49 0 := ⟨_, rfl⟩
  have k : ∀ y h1 x1, y = S → TQ G h0 h1 v x1 F s → Q (some (.int y)) h1 := fun y h1 x1 e => k y h1 x1 (by rw [e, hSS, hP]; rfl)
  have hPe : ∀ i, P i = decide (bL (cK (hrs F (i + 1) v)) = bL (cK (hrs F i v))) := fun i => by rw [hP]
  have lp : ∀ (n : Nat) (i : Nat) (h1 : List va_E), 49 - i < n → (i ≤ 49) → (fsrch P (49 - i) i = S) → (TQ G h0 h1 v (hrs F i v) F s) → AW G yX7_firstStill cX7_firstStill 4 (some .int) (rmx (d + 1) 0 0) (ZQ G 0 0 (h.length + 0) Q) 0 0 13 [some (.ref (gB G + 25)), some (.int (nI (i))), none, none] [] h1 := by
    intro n
    induction n with
    | zero => intro i h1 hn; exact absurd hn (Nat.not_lt_zero _)
    | succ n ih =>
      intro i h1 hn hi hS hm1
      refine a_iloadn_1 (pc := 13) dX7_firstStill_13 ?_
      refine a_bipush (pc := 14) (v := nI 48) dX7_firstStill_14 (by decide) ?_
      refine n_icmp_gt (tgt := 58) dX7_firstStill_16 (by decide) (by omega) (by decide) (fun c_16 => ?_) (fun c_16 => ?_)
      · refine a_bipush (pc := 58) (v := (-2)) dX7_firstStill_58 (by decide) ?_
        exact a_iret (pc := 60) dX7_firstStill_60 rfl (zf hz) (k _ _ _ (by rw [← hS]; exact (fs_end (by omega)).symm) hm1)
      · refine a_aloadn_0 (pc := 19) dX7_firstStill_19 ?_
        refine gf_X7_12 (pc := 20) rfl dX7_firstStill_20 hm1.th ?_
        refine tq_41 hm1 rfl dX7_firstStill_23 ?_
        refine a_lstoren_2 (pc := 26) dX7_firstStill_26 (by decide) (by first | rfl | trivial) ?_
        refine a_aloadn_0 (pc := 27) dX7_firstStill_27 ?_
        refine gf_X7_12 (pc := 28) rfl dX7_firstStill_28 hm1.th ?_
        refine a_aloadn_0 (pc := 31) dX7_firstStill_31 ?_
        refine gf_X7_21 (pc := 32) rfl dX7_firstStill_32 hm1.th ?_
        refine cv_X7_29 (pc := 35) rfl dX7_firstStill_35 hm1.c26.choose_spec (Nat.le_of_ble_eq_true rfl) ?_
        refine q_hour (by omega) hz hm1 (fun h3 hm3 => ?_)
        refine a_aloadn_0 (pc := 38) dX7_firstStill_38 ?_
        refine gf_X7_12 (pc := 39) rfl dX7_firstStill_39 hm3.th ?_
        refine tq_41 hm3 rfl dX7_firstStill_42 ?_
        refine a_lloadn_2 (pc := 45) dX7_firstStill_45 ?_
        refine a_lcmp (pc := 46) dX7_firstStill_46 ?_
        refine a_if_ne (pc := 47) (tgt := 52) dX7_firstStill_47 (by decide) (fun c_47 => ?_) (fun c_47 => ?_)
        · rw [lg_cmp0] at c_47
          refine a_iinc_1 (pc := 52) (v := nI (i + 1)) dX7_firstStill_52 (nI_add _ _) (by decide) (by first | rfl | trivial) ?_
          refine a_goto (pc := 55) (tgt := 13) dX7_firstStill_55 (by decide) ?_
          refine a_ls (ls' := [some _, some _, none, none, none]) ⟨rfl, rfl, trivial⟩ ?_
          exact ih (i + 1) _ (by omega) (by omega) (by rw [← hS]; exact (fs_miss (by omega) ((hPe i).trans (decide_eq_false c_47))).symm) hm3
        · rw [lg_cmp0] at c_47
          refine a_iloadn_1 (pc := 50) dX7_firstStill_50 ?_
          exact a_iret (pc := 51) dX7_firstStill_51 rfl (zf hz) (k _ _ _ (by rw [← hS]; exact (fs_hit (by omega) ((hPe i).trans (decide_eq_true c_47))).symm) hm3)
  refine AM.of [some (.ref (gB G + 25)), none, none, none] pnX7 (Nat.le_of_ble_eq_true rfl) (by simp [lsub, lvI, Value.category]) ?_
  refine a_aloadn_0 (pc := 0) dX7_firstStill_0 ?_
  refine gf_X7_12 (pc := 1) rfl dX7_firstStill_1 hm.th ?_
  refine a_aloadn_0 (pc := 4) dX7_firstStill_4 ?_
  refine gf_X7_18 (pc := 5) rfl dX7_firstStill_5 hm.th ?_
  refine cv_X7_25 (pc := 8) rfl dX7_firstStill_8 hm.c26.choose_spec (Nat.le_of_ble_eq_true rfl) ?_
  refine q_copy (by omega) hz hm (fun h1 hm1 => ?_)
  refine a_iconst (pc := 11) (v := nI 0) dX7_firstStill_11 (by decide) ?_
  refine a_istoren_1 (pc := 12) dX7_firstStill_12 (by decide) (by first | rfl | trivial) ?_
  exact lp 50 0 _ (by omega) (by omega) hSS.symm hm1
theorem alive_dark {F : Lf} {r : Nat} {v : Cv} {w : Nat} (h : cK v r = true) : ∀ m, alive F r (csW v r w) m = false := fun m => alive_mono (n := 0) (by show (!cK v r) = false; rw [h]; rfl) m (Nat.zero_le _)
theorem fs_none {P : Nat → Bool} (h : ∀ i, P i = false) : ∀ m i, fsrch P m i = -2
  | 0, _ => rfl
  | m + 1, i => by rw [fsrch, h i]; exact fs_none h m (i + 1)
set_option maxRecDepth 100000 in
set_option maxHeartbeats 4000000 in
theorem q_leastWax {G : Cx} {d : Nat} {h h0 : List va_E} {v x : Cv} {F : Lf} {s : Nat × Nat × Int32} {Q : Option Value → List va_E → Prop} (hd : 9 ≤ d) (hz : gz G = false) (hm : TQ G h0 h v x F s) {r m : Nat} (hr : r < 36) (hm9 : m < 1000) (k : ∀ y h1 x1, y = fsrch (fun w => alive F r (csW v r w) m) 100 0 → TQ G h0 h1 v x1 F s → Q (some (.int y)) h1) : AM G yX7_leastWax cX7_leastWax 4 (some .int) d 0 0 [.ref (gB G + 25), .int (nI (r)), .int (nI (m))] h Q := by
  obtain ⟨d, rfl, he⟩ := dpos hd
  obtain ⟨P, hP⟩ : ∃ P : Nat → Bool, P = fun w => alive F r (csW v r w) m := ⟨_, rfl⟩
  obtain ⟨S, hSS⟩ : ∃ S, S = fsrch P 100 0 := ⟨_, rfl⟩
  have k : ∀ y h1 x1, y = S → TQ G h0 h1 v x1 F s → Q (some (.int y)) h1 := fun y h1 x1 e => k y h1 x1 (by rw [e, hSS, hP])
  have hPe : ∀ i, P i = alive F r (csW v r i) m := fun i => by rw [hP]
  have lp : ∀ (n : Nat) (i : Nat) (h1 : List va_E) (x : Cv), 100 - i < n → (i ≤ 100) → (fsrch P (100 - i) i = S) → (TQ G h0 h1 v x F s) → AW G yX7_leastWax cX7_leastWax 4 (some .int) (rmx (d + 1) 0 0) (ZQ G 0 0 (h.length + 0) Q) 0 0 16 [some (.ref (gB G + 25)), some (.int (nI (r))), some (.int (nI (m))), some (.int (nI (i)))] [] h1 := by
    intro n
    induction n with
    | zero => intro i h1 x hn; exact absurd hn (Nat.not_lt_zero _)
    | succ n ih =>
      intro i h1 x hn hi hS hm1
      refine a_iloadn_3 (pc := 16) dX7_leastWax_16 ?_
      refine a_bipush (pc := 17) (v := nI 99) dX7_leastWax_17 (by decide) ?_
      refine n_icmp_gt (tgt := 61) dX7_leastWax_19 (by decide) (by omega) (by decide) (fun c_19 => ?_) (fun c_19 => ?_)
      · refine a_bipush (pc := 61) (v := (-2)) dX7_leastWax_61 (by decide) ?_
        exact a_iret (pc := 63) dX7_leastWax_63 rfl (zf hz) (k _ _ _ (by rw [← hS]; exact (fs_end (by omega)).symm) hm1)
      · refine a_aloadn_0 (pc := 22) dX7_leastWax_22 ?_
        refine gf_X7_12 (pc := 23) rfl dX7_leastWax_23 hm1.th ?_
        refine a_aloadn_0 (pc := 26) dX7_leastWax_26 ?_
        refine gf_X7_18 (pc := 27) rfl dX7_leastWax_27 hm1.th ?_
        refine cv_X7_25 (pc := 30) rfl dX7_leastWax_30 hm1.c26.choose_spec (Nat.le_of_ble_eq_true rfl) ?_
        refine q_copy (by omega) hz hm1 (fun h4 hm4 => ?_)
        refine a_aloadn_0 (pc := 33) dX7_leastWax_33 ?_
        refine gf_X7_12 (pc := 34) rfl dX7_leastWax_34 hm4.th ?_
        refine a_iloadn_1 (pc := 37) dX7_leastWax_37 ?_
        refine a_iloadn_3 (pc := 38) dX7_leastWax_38 ?_
        refine cv_X7_45 (pc := 39) rfl dX7_leastWax_39 hm4.c26.choose_spec (Nat.le_of_ble_eq_true rfl) ?_
        refine q_setWax (by omega) hz hm4 (by omega) (by omega) (fun h5 hm5 => ?_)
        refine a_aloadn_0 (pc := 42) dX7_leastWax_42 ?_
        refine a_iloadn_1 (pc := 43) dX7_leastWax_43 ?_
        refine a_iloadn_2 (pc := 44) dX7_leastWax_44 ?_
        refine cv_X7_33 (pc := 45) rfl dX7_leastWax_45 hm5.th (Nat.le_of_ble_eq_true rfl) ?_
        refine q_darkWithin (by omega) hz hm5 (by omega) (by omega) (fun y6 h6 x6 hy6 hm6 => ?_)
        refine a_bipush (pc := 48) (v := (-2)) dX7_leastWax_48 (by decide) ?_
        refine a_icmp_ne (pc := 50) (tgt := 55) dX7_leastWax_50 (by decide) (fun c_50 => ?_) (fun c_50 => ?_)
        · have al : alive F r (csW v r i) m = false := by
            rw [Bool.eq_false_iff]
            intro q; exact c_50 (hy6.trans ((alive_fs (fun _ => rfl) m (by omega)).mpr q))
          refine a_iinc_3 (pc := 55) (v := nI (i + 1)) dX7_leastWax_55 (nI_add _ _) (by decide) (by first | rfl | trivial) ?_
          refine a_goto (pc := 58) (tgt := 16) dX7_leastWax_58 (by decide) ?_
          exact ih (i + 1) _ _ (by omega) (by omega) (by rw [← hS]; exact (fs_miss (by omega) ((hPe i).trans al)).symm) hm6
        · have al : alive F r (csW v r i) m = true := (alive_fs (fun _ => rfl) m (by omega)).mp (hy6.symm.trans c_50)
          refine a_iloadn_3 (pc := 53) dX7_leastWax_53 ?_
          exact a_iret (pc := 54) dX7_leastWax_54 rfl (zf hz) (k _ _ _ (by rw [← hS]; exact (fs_hit (by omega) ((hPe i).trans al)).symm) hm6)
  refine AM.of [some (.ref (gB G + 25)), some (.int (nI (r))), some (.int (nI (m))), none] pnX7 (Nat.le_of_ble_eq_true rfl) (by simp [lsub, lvI, Value.category]) ?_
  refine a_aloadn_0 (pc := 0) dX7_leastWax_0 ?_
  refine gf_X7_18 (pc := 1) rfl dX7_leastWax_1 hm.th ?_
  refine a_iloadn_1 (pc := 4) dX7_leastWax_4 ?_
  refine cv_X7_37 (pc := 5) rfl dX7_leastWax_5 hm.c1 (Nat.le_of_ble_eq_true rfl) ?_
  refine x_isDark (by omega) hz hm.now (by omega) ?_
  refine b_if_eq (pc := 8) (tgt := 14) dX7_leastWax_8 (by decide) (fun c_8 => ?_) (fun c_8 => ?_)
  · refine a_iconst (pc := 14) (v := nI 0) dX7_leastWax_14 (by decide) ?_
    refine a_istoren_3 (pc := 15) dX7_leastWax_15 (by decide) (by first | rfl | trivial) ?_
    exact lp 101 0 _ _ (by omega) (by omega) hSS.symm hm
  · refine a_bipush (pc := 11) (v := (-2)) dX7_leastWax_11 (by decide) ?_
    exact a_iret (pc := 13) dX7_leastWax_13 rfl (zf hz) (k _ _ _ (by rw [hSS]; exact (fs_none (fun i => (hPe i).trans (alive_dark c_8 m)) _ _).symm) hm)
set_option maxRecDepth 100000 in
set_option maxHeartbeats 4000000 in
theorem s_at {G : Cx} {d q : Nat} {h : List va_E} {sc : Int32} {rw : Bool} {so sz : Nat} {el : Nat → Int64} {Q : Option Value → List va_E → Prop} (hd : 1 ≤ d) (hz : gz G = false) (hs : shAt G h q sc rw so sz el) {i : Nat} (hi : i < 1000) (k : Q (some (.long (if i < sz then el i else 0))) h) : AM G yX6_at cX6_at 2 (some .long) d 0 0 [.ref (gB G + q), .int (nI (i))] h Q := by
  obtain ⟨d, rfl, he⟩ := dpos hd
  refine AM.of [some (.ref (gB G + q)), some (.int (nI (i)))] pnX6 (Nat.le_of_ble_eq_true rfl) (by simp [lsub, lvI, Value.category]) ?_
  refine a_iloadn_1 (pc := 0) dX6_at_0 ?_
  refine n_if_lt (tgt := 21) dX6_at_1 (by decide) (by omega) ?_
  refine a_iloadn_1 (pc := 4) dX6_at_4 ?_
  refine a_aloadn_0 (pc := 5) dX6_at_5 ?_
  refine gf_X6_24 (pc := 6) rfl dX6_at_6 hs.1 ?_
  have sz9 := hs.2.2
  refine n_icmp_ge (tgt := 21) dX6_at_9 (by decide) (by omega) (by omega) (fun c_9 => ?_) (fun c_9 => ?_)
  · refine a_lconst (pc := 21) (v := 0) dX6_at_21 (by decide) ?_
    exact a_lret (pc := 22) dX6_at_22 rfl (zf hz) (by rw [if_neg (by omega)] at k; exact k)
  · refine a_aloadn_0 (pc := 12) dX6_at_12 ?_
    refine gf_X6_9 (pc := 13) rfl dX6_at_13 hs.1 ?_
    refine a_iloadn_1 (pc := 16) dX6_at_16 ?_
    refine b_lald (pc := 17) i dX6_at_17 hs.2.1 rfl (by have := hs.2.2; omega) (by decide) ?_
    refine a_goto (pc := 18) (tgt := 22) dX6_at_18 (by decide) ?_
    exact a_lret (pc := 22) dX6_at_22 rfl (zf hz) (by rw [if_pos c_9] at k; exact k)
