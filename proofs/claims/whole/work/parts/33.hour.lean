/-! THE HOUR over a city's cells -/
def HX (a : Nat) (h h' : List va_E) : Prop := h'.length = h.length ∧ (∀ k, (k < a ∨ a + 2 < k) → k ≠ 12 → k ≠ 15 → k ≠ 22 → h'[k]? = h[k]?) ∧ ∀ (k : Nat) (c : ClassId) (n : Nat) (f : Nat → Int32), (k < a ∨ a + 2 < k) → h[k]? = some (.inl (c, n, .inl f)) → ∃ f', h'[k]? = some (.inl (c, n, .inl f'))
theorem HX.rfl' (a : Nat) (h : List va_E) : HX a h h := ⟨rfl, fun _ _ _ _ _ => rfl, fun _ _ _ f _ e => ⟨f, e⟩⟩
theorem HX.trans {a : Nat} {h1 h2 h3 : List va_E} (p : HX a h1 h2) (q : HX a h2 h3) : HX a h1 h3 := ⟨q.1.trans p.1, fun k a0 a1 a2 a3 => (q.2.1 k a0 a1 a2 a3).trans (p.2.1 k a0 a1 a2 a3), fun k c n f a0 e => by
  obtain ⟨f1, e1⟩ := p.2.2 k c n f a0 e
  exact q.2.2 k c n f1 a0 e1⟩
theorem HX.ofL {a : Nat} {h h' : List va_E} (p : HL h h') : HX a h h' := ⟨p.1, fun k _ a1 a2 a3 => p.2.1 k a1 a2 a3, fun k c n f _ e => p.2.2 k c n f e⟩
theorem HX.put {G : Cx} {a : Nat} {h : List va_E} {v : Cv} : HX a h (putC G h a v) := ⟨putC_len, fun k a0 _ _ _ => putC_out a0, fun k c n f a0 e => ⟨f, by rw [putC_out a0]; exact e⟩⟩
theorem cityL {G : Cx} {h h' : List va_E} {a : Nat} {v : Cv} (ca : a + 2 < 7 ∨ 24 < a) (hc : cityAt G h a v) (p : HL h h') : cityAt G h' a v :=
  ⟨(p.2.1 a (by omega) (by omega) (by omega)).trans hc.1, (p.2.1 (a + 1) (by omega) (by omega) (by omega)).trans hc.2.1, (p.2.1 (a + 2) (by omega) (by omega) (by omega)).trans hc.2.2.1, hc.2.2.2⟩
theorem cityX {G : Cx} {h h' : List va_E} {a b : Nat} {v : Cv} (cb : b + 2 < 7 ∨ 24 < b) (hab : a + 2 < b ∨ b + 2 < a) (hc : cityAt G h b v) (p : HX a h h') : cityAt G h' b v :=
  ⟨(p.2.1 b (by omega) (by omega) (by omega) (by omega)).trans hc.1, (p.2.1 (b + 1) (by omega) (by omega) (by omega) (by omega)).trans hc.2.1, (p.2.1 (b + 2) (by omega) (by omega) (by omega) (by omega)).trans hc.2.2.1, hc.2.2.2⟩
theorem LawOK_put {G : Cx} {h : List va_E} {a : Nat} {v : Cv} {F : Lf} (ca : a + 2 < 7 ∨ 24 < a) (H : LawOK G h F) : LawOK G (putC G h a v) F := by
  obtain ⟨t, rd, x, vf, m, y, a1, a2, a3, a4, a5, a6, a7⟩ := H
  refine ⟨t, rd, x, vf, m, y, a1, a2, (putC_out (by omega)).trans a3, (putC_out (by omega)).trans a4, a5, a6, fun hr => ?_⟩
  obtain ⟨⟨q0, q1, q2, q3, q4, q5, q6, ok⟩, b2⟩ := a7 hr
  exact ⟨⟨(putC_out (by omega)).trans q0, (putC_out (by omega)).trans q1, (putC_out (by omega)).trans q2, (putC_out (by omega)).trans q3, (putC_out (by omega)).trans q4, (putC_out (by omega)).trans q5, (putC_out (by omega)).trans q6, ok⟩, b2⟩
def bes (r i : Nat) : Bool := tb (sJ.getD r 0) i
def edN (r : Nat) : Nat := [2, 1, 1, 1, 1, 2, 1, 0, 0, 0, 0, 1, 1, 0, 0, 0, 0, 1, 1, 0, 0, 0, 0, 1, 1, 0, 0, 0, 0, 1, 2, 1, 1, 1, 1, 2].getD r 0
theorem bes_bL {r : Nat} (hr : r < 36) : sJ.getD r 0 = bL (bes r) := by
  have : ∀ r : Fin 36, sJ.getD r 0 = bL (bes r) := by decide +kernel
  exact this ⟨r, hr⟩
theorem edN_eq {r : Nat} (hr : r < 36) : (sI 2).getD r 0 = nI (edN r) := by
  have : ∀ r : Fin 36, (sI 2).getD r 0 = nI (edN r) := by decide +kernel
  exact this ⟨r, hr⟩
theorem bes_4 {r : Nat} (hr : r < 36) : ctn (bes r) 36 + edN r = 4 := by
  have : ∀ r : Fin 36, ctn (bes r) 36 + edN r = 4 := by decide +kernel
  exact this ⟨r, hr⟩
theorem ctn_and (p q : Nat → Bool) : ∀ n, ctn (fun i => p i && q i) n ≤ ctn q n
  | 0 => Nat.le_refl _
  | n + 1 => by
    have := ctn_and p q n
    rw [ctn, ctn]
    have : (p n && q n).toNat ≤ (q n).toNat := by cases p n <;> cases q n <;> decide
    omega
/-- how many beside are dark, over the edge too; how many are lit -/
def dB (k : Nat → Bool) (r : Nat) : Nat := ctn (fun i => k i && bes r i) 36 + edN r
def lB (l : Nat → Bool) (r : Nat) : Nat := ctn (fun i => l i && bes r i) 36
theorem dB_lt (k : Nat → Bool) {r : Nat} (hr : r < 36) : dB k r < 5 := by
  have h1 := bes_4 hr
  have h2 := ctn_and k (bes r) 36
  unfold dB
  omega
theorem lB_lt (k : Nat → Bool) {r : Nat} (hr : r < 36) : lB k r < 5 := by
  have h1 := bes_4 hr
  have h2 := ctn_and k (bes r) 36
  unfold lB
  omega
abbrev prs (F : Lf) (v : Cv) (r : Nat) : Nat := F (dB (cK v) r) (lB (clit v) r) (cG v r) (cC v r).toNat (cW v r) (cT v)
set_option maxRecDepth 100000 in
set_option maxHeartbeats 4000000 in
theorem x_pressOn {G : Cx} {d a : Nat} {h : List va_E} {v : Cv} {Q : Option Value → List va_E → Prop} {r : Nat} {F : Lf} (hd : 4 ≤ d) (hz : gz G = false) (hc : cityAt G h a v) (ca : a + 2 < 7 ∨ 24 < a) (hr : r < 36) (hL : LawOK G h F) (k : ∀ h', HL h h' → LawOK G h' F → Q (some (.int (nI (prs F v r)))) h') : AM G yX0_pressOn cX0_pressOn 6 (some .int) d 0 0 [.ref (gB G + a), .int (nI r), .ref (gB G + 7)] h Q := by
  obtain ⟨d, rfl, he⟩ := dpos hd
  obtain ⟨q0, q1, q2, ok⟩ := id hc
  refine AM.of [some (.ref (gB G + a)), some (.int (nI r)), some (.ref (gB G + 7)), none, none, none] pnX0 (Nat.le_of_ble_eq_true rfl) (by simp [lsub, lvI, Value.category]) ?_
  refine a_aloadn_0 (pc := 0) dX0_pressOn_0 ?_
  refine gf_X0_42 (pc := 1) rfl dX0_pressOn_1 (by first | assumption | (repeat first | assumption | apply hs_eq | refine hs_ne (by omega) ?_)) ?_
  refine a_getsB (pc := 4) dX0_pressOn_4 w_546 ?_
  refine a_iloadn_1 (pc := 7) dX0_pressOn_7 ?_
  refine a_sll (pc := 8) r dX0_pressOn_8 rfl hr ?_
  refine a_topl _ (bes_bL hr) ?_
  refine a_land (pc := 9) dX0_pressOn_9 ?_
  refine a_topl _ (bL_and _ _) ?_
  refine cs_X0_54 (pc := 10) rfl dX0_pressOn_10 (Nat.le_of_ble_eq_true rfl) ?_
  refine x_bitCount (by omega) hz ?_
  rw [ct_bL]
  refine a_gets (pc := 13) (i := 2) (by decide) dX0_pressOn_13 rfl w_554 ?_
  refine a_iloadn_1 (pc := 16) dX0_pressOn_16 ?_
  refine a_sil (pc := 17) r (by decide) dX0_pressOn_17 rfl hr ?_
  refine a_topi _ (edN_eq hr) ?_
  refine a_iadd (pc := 18) dX0_pressOn_18 ?_
  refine a_topi (nI (dB (cK v) r)) (nI_add _ _) ?_
  refine a_istoren_3 (pc := 19) dX0_pressOn_19 (by decide) (by first | rfl | trivial) ?_
  refine a_aloadn_0 (pc := 20) dX0_pressOn_20 ?_
  refine cv_X0_50 (pc := 21) rfl dX0_pressOn_21 (by first | assumption | (repeat first | assumption | apply hs_eq | refine hs_ne (by omega) ?_)) (Nat.le_of_ble_eq_true rfl) ?_
  refine x_lit (by omega) hz hc ?_
  refine a_getsB (pc := 24) dX0_pressOn_24 w_546 ?_
  refine a_iloadn_1 (pc := 27) dX0_pressOn_27 ?_
  refine a_sll (pc := 28) r dX0_pressOn_28 rfl hr ?_
  refine a_topl _ (bes_bL hr) ?_
  refine a_land (pc := 29) dX0_pressOn_29 ?_
  refine a_topl _ (bL_and _ _) ?_
  refine cs_X0_54 (pc := 30) rfl dX0_pressOn_30 (Nat.le_of_ble_eq_true rfl) ?_
  refine x_bitCount (by omega) hz ?_
  rw [ct_bL]
  refine a_topi (nI (lB (clit v) r)) rfl ?_
  refine a_istore_4 (pc := 33) dX0_pressOn_33 (by decide) (by first | rfl | trivial) ?_
  refine a_aloadn_0 (pc := 35) dX0_pressOn_35 ?_
  refine gf_X0_35 (pc := 36) rfl dX0_pressOn_36 (by first | assumption | (repeat first | assumption | apply hs_eq | refine hs_ne (by omega) ?_)) ?_
  refine a_iloadn_1 (pc := 39) dX0_pressOn_39 ?_
  refine a_lushr (pc := 40) dX0_pressOn_40 ?_
  refine a_lconst (pc := 41) (v := 1) dX0_pressOn_41 (by decide) ?_
  refine a_land (pc := 42) dX0_pressOn_42 ?_
  refine a_topl _ (bL_get hr) ?_
  refine a_l2i (pc := 43) dX0_pressOn_43 ?_
  refine a_topi _ (bit_i2 _) ?_
  refine a_istore_5 (pc := 44) dX0_pressOn_44 (by decide) (by first | rfl | trivial) ?_
  refine a_aloadn_2 (pc := 46) dX0_pressOn_46 ?_
  refine a_iloadn_3 (pc := 47) dX0_pressOn_47 ?_
  refine a_iload_4 (pc := 48) dX0_pressOn_48 ?_
  refine a_aloadn_0 (pc := 50) dX0_pressOn_50 ?_
  refine gf_X0_15 (pc := 51) rfl dX0_pressOn_51 (by first | assumption | (repeat first | assumption | apply hs_eq | refine hs_ne (by omega) ?_)) ?_
  refine a_iloadn_1 (pc := 54) dX0_pressOn_54 ?_
  refine b_iald (pc := 55) r dX0_pressOn_55 q2 rfl hr (by decide) ?_
  refine a_iload_5 (pc := 56) dX0_pressOn_56 ?_
  refine a_aloadn_0 (pc := 58) dX0_pressOn_58 ?_
  refine gf_X0_9 (pc := 59) rfl dX0_pressOn_59 (by first | assumption | (repeat first | assumption | apply hs_eq | refine hs_ne (by omega) ?_)) ?_
  refine a_iloadn_1 (pc := 62) dX0_pressOn_62 ?_
  refine b_iald (pc := 63) r dX0_pressOn_63 q1 rfl hr (by decide) ?_
  refine a_aloadn_0 (pc := 64) dX0_pressOn_64 ?_
  refine gf_X0_45 (pc := 65) rfl dX0_pressOn_65 (by first | assumption | (repeat first | assumption | apply hs_eq | refine hs_ne (by omega) ?_)) ?_
  refine cv_X0_81 (pc := 68) rfl dX0_pressOn_68 (hL.choose_spec.choose_spec.choose_spec.choose_spec.choose_spec.choose_spec.2.2.1) (Nat.le_of_ble_eq_true rfl) ?_
  refine x_pressing (by omega) hz hL ⟨dB_lt _ hr, lB_lt _ hr, by have := ok.2.1 r; omega, by cases cC v r <;> decide, by have := ok.2.2.2.2.2.1; omega, by have := ok.1 r; omega⟩ (fun h1 hX hL1 => ?_)
  exact a_iret (pc := 71) dX0_pressOn_71 rfl (zf hz) (k h1 hX hL1)
abbrev cout (v : Cv) (f : Nat → Bool) (i : Nat) : Cv := (fun r => if r < i ∧ f r = true then 0 else cW v r, v.2)
theorem okC_out {v : Cv} {f : Nat → Bool} {i : Nat} (h : okC v) : okC (cout v f i) := by
  obtain ⟨h1, h2, h3, h4⟩ := h
  refine ⟨fun k => ?_, h2, fun k hk => ⟨?_, (h3 k hk).2⟩, h4⟩
  · show (if _ then 0 else cW v k) ≤ 99
    split
    · omega
    · exact h1 k
  · show (if _ then 0 else cW v k) = 0
    split
    · rfl
    · exact (h3 k hk).1
theorem cout_0 {v : Cv} {f : Nat → Bool} {i : Nat} (h : ∀ r, r < i → f r = false) : cout v f i = v := by
  show (_, v.2) = v
  refine Prod.ext (funext fun r => ?_) rfl
  show (if r < i ∧ f r = true then 0 else cW v r) = cW v r
  rw [if_neg]
  rintro ⟨q1, q2⟩
  rw [h r q1] at q2
  cases q2
theorem cout_s1 {v : Cv} {f : Nat → Bool} {i : Nat} (h : f i = true) : csW (cout v f i) i 0 = cout v f (i + 1) := by
  refine Prod.ext (funext fun r => ?_) rfl
  show va_up (fun r => if r < i ∧ f r = true then 0 else cW v r) i 0 r = if r < i + 1 ∧ f r = true then 0 else cW v r
  unfold va_up
  by_cases e : r = i
  · subst e; simp [h]
  · rw [if_neg e]
    show (if r < i ∧ f r = true then 0 else cW v r) = _
    by_cases e2 : r < i
    · simp [e2, show r < i + 1 by omega]
    · rw [if_neg (fun q => e2 q.1), if_neg (fun q => by omega)]
theorem cout_s0 {v : Cv} {f : Nat → Bool} {i : Nat} (h : f i = false) : cout v f i = cout v f (i + 1) := by
  refine Prod.ext (funext fun r => ?_) rfl
  show (if r < i ∧ f r = true then 0 else cW v r) = if r < i + 1 ∧ f r = true then 0 else cW v r
  by_cases e : r = i
  · subst e; simp [h]
  · by_cases e2 : r < i
    · simp [e2, show r < i + 1 by omega]
    · rw [if_neg (fun q => e2 q.1), if_neg (fun q => by omega)]
theorem bit_0 (f : Nat → Bool) : lg_cmp (bL f) 0 = 0 ↔ ∀ i, i < 36 → f i = false := by rw [lg_cmp0, bL_eq0]
