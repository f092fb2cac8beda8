/-! the reference: WAY IN -/
def ST1 (Op Ga : Nat → Bool) (n s j : Nat) : Prop := (s = 0 ∧ icl Op Ga n j = false) ∨ ∃ m, m < n ∧ s = m + 1 ∧ fr Op Ga m j = true
def PSI (Op Ga : Nat → Bool) (e i : Nat) (S : Nat → Nat) (g : Bool) : Prop := (∀ j, j < 36 → (j < i → ST1 Op Ga (e + 2) (S j) j) ∧ (i ≤ j → ST1 Op Ga (e + 1) (S j) j)) ∧ (g = true ↔ ∃ j, j < i ∧ fr Op Ga (e + 1) j = true)
def INX (Op Ga : Nat → Bool) (e i w : Nat) (S1 : Nat → Nat) (g1 : Bool) (S : Nat → Nat) (g : Bool) : Prop := (S = S1 ∧ g = g1 ∧ ∀ w', w' < w → ∀ o, bsd i w' = some o → fr Op Ga e o = false) ∨ (S1 i = 0 ∧ S = va_up S1 i (e + 2) ∧ g = true ∧ fr Op Ga (e + 1) i = true)
def OUX (Op Ga : Nat → Bool) (e i : Nat) (S1 : Nat → Nat) (g1 : Bool) (S : Nat → Nat) (g : Bool) : Prop := (S = S1 ∧ g = g1 ∧ fr Op Ga (e + 1) i = false) ∨ (S1 i = 0 ∧ S = va_up S1 i (e + 2) ∧ g = true ∧ fr Op Ga (e + 1) i = true)
section Steps
variable {Op Ga : Nat → Bool} {e i w s n : Nat} {S1 S : Nat → Nat} {g1 g : Bool}
theorem fr_f {n k : Nat} (h : ¬ fr Op Ga n k = true) : fr Op Ga n k = false := by
  cases q : fr Op Ga n k with
  | false => rfl
  | true => exact absurd q h
theorem st_of {m j : Nat} (h : ST1 Op Ga n s j) (hf : fr Op Ga m j = true) (hm : m < n) : s = m + 1 := by
  rcases h with ⟨rfl, hc⟩ | ⟨m', _, rfl, hf'⟩
  · rw [(icl_iff n).mpr ⟨m, hm, (fr_iff.mp hf).1⟩] at hc; cases hc
  · rw [fr_uniq hf hf']
theorem st_fr {m j : Nat} (h : ST1 Op Ga n s j) (hs : s = m + 1) : fr Op Ga m j = true := by
  rcases h with ⟨rfl, hc⟩ | ⟨m', _, q, hf'⟩
  · omega
  · rw [show m = m' by omega]; exact hf'
theorem st_le {j : Nat} (h : ST1 Op Ga n s j) : s ≤ n := by
  rcases h with ⟨rfl, _⟩ | ⟨m', h1, h2, _⟩ <;> omega
theorem st_end {r : Nat} (h : ST1 Op Ga (e + 1) s r) (h0 : ∀ k, k < 36 → fr Op Ga e k = false) (hr : r < 36) : WL Op Ga r s := by
  rcases h with ⟨rfl, hc⟩ | ⟨m, h1, rfl, h3⟩
  · refine Or.inl ⟨rfl, fun m => ?_⟩
    cases hm : itr Op Ga m r with
    | false => rfl
    | true =>
      have q := itr_icl h0 hr hm
      have hc : (icl Op Ga e r || itr Op Ga e r) = false := hc
      rw [q] at hc; cases hc
  · exact Or.inr ⟨m, rfl, fr_lt hr h3, h3⟩
theorem psi_0 (h : ∀ j, j < 36 → ST1 Op Ga (e + 1) (S j) j) : PSI Op Ga e 0 S false := ⟨fun j hj => ⟨fun q => absurd q (Nat.not_lt_zero j), fun _ => h j hj⟩, ⟨fun q => (by cases q), fun ⟨j, hj, _⟩ => absurd hj (Nat.not_lt_zero j)⟩⟩
theorem ps_T (h : PSI Op Ga e 36 S g) : ∀ j, j < 36 → ST1 Op Ga (e + 1 + 1) (S j) j := fun j hj => (h.1 j hj).1 hj
theorem ps_g0 (h : PSI Op Ga e 36 S g) (hg : g = false) : ∀ k, k < 36 → fr Op Ga (e + 1) k = false := fun k hk => fr_f (fun q => by rw [h.2.mpr ⟨k, hk, q⟩] at hg; cases hg)
theorem ps_g1 (h : PSI Op Ga e 36 S g) (hg : g = true) : e + 1 < 36 := by
  obtain ⟨j, hj, q⟩ := h.2.mp hg
  exact fr_lt hj q
theorem ps_le (h : PSI Op Ga e i S g) {j : Nat} (hj : j < 36) : S j ≤ e + 2 := by
  have h2 := h.1 j hj
  by_cases q : j < i
  · exact st_le (h2.1 q)
  · have := st_le (h2.2 (by omega)); omega
theorem ps_fr (h : PSI Op Ga e i S g) {j : Nat} (hj : j < 36) : S j = e + 1 ↔ fr Op Ga e j = true := by
  have h2 := h.1 j hj
  by_cases q : j < i
  · exact ⟨fun z => st_fr (h2.1 q) z, fun z => st_of (h2.1 q) z (by omega)⟩
  · exact ⟨fun z => st_fr (h2.2 (by omega)) z, fun z => st_of (h2.2 (by omega)) z (by omega)⟩
theorem inx_le (hP : PSI Op Ga e i S1 g1) (h : INX Op Ga e i w S1 g1 S g) {j : Nat} (hj : j < 36) : S j ≤ e + 2 := by
  have := ps_le hP hj
  rcases h with ⟨rfl, _⟩ | ⟨_, rfl, _⟩
  · exact this
  · unfold va_up
    split <;> omega
theorem inx_no (h : INX Op Ga e i w S1 g1 S g) (h0 : S i = 0) : S = S1 ∧ g = g1 ∧ ∀ w', w' < w → ∀ o, bsd i w' = some o → fr Op Ga e o = false := by
  rcases h with q | ⟨_, rfl, _⟩
  · exact q
  · rw [up_eq] at h0; omega
theorem inx_4 (hi : i < 36) (hw : w = 4) (h : INX Op Ga e i w S1 g1 S g) : OUX Op Ga e i S1 g1 S g := by
  subst hw
  rcases h with ⟨h1, h2, h3⟩ | q
  · refine Or.inl ⟨h1, h2, fr_f (fun z => ?_)⟩
    obtain ⟨_, z2, _⟩ := fr_s.mp z
    obtain ⟨w', o, hw', hb, hs⟩ := (nb_ways hi).mp z2
    rw [h3 w' hw' o hb] at hs; cases hs
  · exact Or.inr q
theorem inx_S (hP : PSI Op Ga e i S1 g1) (hi : i < 36) (h : INX Op Ga e i w S1 g1 S g) (h0 : 0 < S i) : OUX Op Ga e i S1 g1 S g := by
  rcases h with ⟨h1, h2, h3⟩ | q
  · refine Or.inl ⟨h1, h2, fr_f (fun z => ?_)⟩
    rw [h1] at h0
    rcases (hP.1 i hi).2 (Nat.le_refl i) with ⟨q, _⟩ | ⟨m, q1, q2, q3⟩
    · omega
    · have := fr_uniq z q3; omega
  · exact Or.inr q
theorem inx_op (h : INX Op Ga e i w S1 g1 S g) (h0 : S i = 0) (ho : Op i = false) : OUX Op Ga e i S1 g1 S g := by
  obtain ⟨h1, h2, h3⟩ := inx_no h h0
  exact Or.inl ⟨h1, h2, fr_f (fun z => by rw [(fr_s.mp z).1] at ho; cases ho)⟩
theorem inx_nx (h : INX Op Ga e i w S1 g1 S g) (h0 : S i = 0) (hb : ∀ o, bsd i w = some o → fr Op Ga e o = false) : INX Op Ga e i (w + 1) S1 g1 S g := by
  obtain ⟨h1, h2, h3⟩ := inx_no h h0
  refine Or.inl ⟨h1, h2, fun w' hw' => ?_⟩
  by_cases q : w' = w
  · rw [q]; exact hb
  · exact h3 w' (by omega)
theorem inx_ne (hP : PSI Op Ga e i S1 g1) (h : INX Op Ga e i w S1 g1 S g) (h0 : S i = 0) {o : Nat} (ho : o < 36) (hb : bsd i w = some o) (hn : ¬ S o = e + 1) : INX Op Ga e i (w + 1) S1 g1 S g := by
  obtain ⟨h1, _⟩ := inx_no h h0
  refine inx_nx h h0 (fun o' hb' => ?_)
  rw [hb] at hb'
  cases hb'
  exact fr_f (fun z => hn (by rw [h1]; exact (ps_fr hP ho).mpr z))
theorem inx_eq (hP : PSI Op Ga e i S1 g1) (hi : i < 36) (hw : w < 4) (h : INX Op Ga e i w S1 g1 S g) (h0 : S i = 0) (hop : Op i = true) {o : Nat} (ho : o < 36) (hb : bsd i w = some o) (hn : S o = e + 1) : INX Op Ga e i (w + 1) S1 g1 (va_up S i (e + 2)) true := by
  obtain ⟨h1, _⟩ := inx_no h h0
  rw [h1] at h0 hn ⊢
  refine Or.inr ⟨h0, rfl, rfl, fr_s.mpr ⟨hop, (nb_ways hi).mpr ⟨w, o, hw, hb, (ps_fr hP ho).mp hn⟩, ?_⟩⟩
  rcases (hP.1 i hi).2 (Nat.le_refl i) with ⟨_, q⟩ | ⟨m, q1, q2, q3⟩
  · exact q
  · omega
theorem ps_next (hP : PSI Op Ga e i S1 g1) (hi : i < 36) (h : OUX Op Ga e i S1 g1 S g) : PSI Op Ga e (i + 1) S g := by
  rcases h with ⟨rfl, rfl, h3⟩ | ⟨h0, rfl, rfl, h3⟩
  · refine ⟨fun j hj => ⟨fun q => ?_, fun q => (hP.1 j hj).2 (by omega)⟩, hP.2.trans ⟨fun ⟨j, a1, a2⟩ => ⟨j, by omega, a2⟩, fun ⟨j, a1, a2⟩ => ?_⟩⟩
    · by_cases z : j = i
      · subst z
        rcases (hP.1 j hj).2 (Nat.le_refl j) with ⟨a1, a2⟩ | ⟨m, a1, a2, a3⟩
        · refine Or.inl ⟨a1, ?_⟩
          show (icl Op Ga (e + 1) j || itr Op Ga (e + 1) j) = false
          rw [a2, Bool.false_or]
          cases hq : itr Op Ga (e + 1) j with
          | false => rfl
          | true => rw [fr_iff.mpr ⟨hq, a2⟩] at h3; cases h3
        · exact Or.inr ⟨m, by omega, a2, a3⟩
      · exact (hP.1 j hj).1 (by omega)
    · by_cases z : j = i
      · rw [z, h3] at a2; cases a2
      · exact ⟨j, by omega, a2⟩
  · refine ⟨fun j hj => ⟨fun q => ?_, fun q => by rw [up_ne (by omega)]; exact (hP.1 j hj).2 (by omega)⟩, ⟨fun _ => ⟨i, by omega, h3⟩, fun _ => rfl⟩⟩
    by_cases z : j = i
    · subst z
      rw [up_eq]
      exact Or.inr ⟨e + 1, by omega, rfl, h3⟩
    · rw [up_ne z]; exact (hP.1 j hj).1 (by omega)
end Steps
set_option maxRecDepth 100000 in
set_option maxHeartbeats 4000000 in
theorem m_isOpen {G : Cx} {d : Nat} {h h0 : List va_E} {b : MB} {p : MP} {t : MT} {o : MO} {Q : Option Value → List va_E → Prop} (hd : 3 ≤ d) (hz : gz G = false) (hm : MS G h0 h (b, p, t, o)) {v : Cv} (hv : HV (b, p, t, o) v) (okv : okC v) {r : Nat} (hr : r < 36) (k : Q (some (.int (bI (opC v o.2.1 r)))) h) : AM G yX12_isOpen cX12_isOpen 2 (some .boolean) d 0 0 [.ref (gB G + 80), .int (nI (r))] h Q := by
  obtain ⟨d, rfl, he⟩ := dpos hd
  refine AM.of [some (.ref (gB G + 80)), some (.int (nI (r)))] pnX12 (Nat.le_of_ble_eq_true rfl) (by simp [lsub, lvI, Value.category]) ?_
  refine a_aloadn_0 (pc := 0) dX12_isOpen_0 ?_
  refine mg_34 hm rfl dX12_isOpen_1 ?_
  refine a_iloadn_1 (pc := 4) dX12_isOpen_4 ?_
  refine ml_isDark (x := (cK v r).toNat) hm dX12_isOpen_5 (by omega) (hv.1 r (by omega)).2.1 ?_
  refine a_topi (bI (cK v r)) (bI_nI _).symm ?_
  refine b_if_ne (pc := 6) (tgt := 30) dX12_isOpen_6 (by decide) (fun c_6 => ?_) (fun c_6 => ?_)
  · refine a_iconst (pc := 30) (v := nI 0) dX12_isOpen_30 (by decide) ?_
    refine a_zret (pc := 31) dX12_isOpen_31 rfl (by first | rfl | exact bI_nar _ | decide) (zf hz) ?_
    first | (rw [show opC v o.2.1 r = true by simp [opC, opV, ga, *]] at k; exact k) | (rw [show opC v o.2.1 r = false by simp [opC, opV, ga, *]] at k; exact k)
  · refine a_aloadn_0 (pc := 9) dX12_isOpen_9 ?_
    refine a_iloadn_1 (pc := 10) dX12_isOpen_10 ?_
    refine cv_X12_196 (pc := 11) rfl dX12_isOpen_11 hm.2.2.1 (Nat.le_of_ble_eq_true rfl) ?_
    refine m_isLit (by omega) hz hm hv okv (by omega) ?_
    refine b_if_ne (pc := 14) (tgt := 30) dX12_isOpen_14 (by decide) (fun c_14 => ?_) (fun c_14 => ?_)
    · refine a_iconst (pc := 30) (v := nI 0) dX12_isOpen_30 (by decide) ?_
      refine a_zret (pc := 31) dX12_isOpen_31 rfl (by first | rfl | exact bI_nar _ | decide) (zf hz) ?_
      first | (rw [show opC v o.2.1 r = true by simp [opC, opV, ga, *]] at k; exact k) | (rw [show opC v o.2.1 r = false by simp [opC, opV, ga, *]] at k; exact k)
    · refine a_aloadn_0 (pc := 17) dX12_isOpen_17 ?_
      refine mg_43 hm rfl dX12_isOpen_18 ?_
      refine a_iloadn_1 (pc := 21) dX12_isOpen_21 ?_
      refine ml_closed (x := o.2.1 r) hm dX12_isOpen_22 (by omega) rfl ?_
      refine b_if_ne (pc := 23) (tgt := 30) dX12_isOpen_23 (by decide) (fun c_23 => ?_) (fun c_23 => ?_)
      · refine a_iconst (pc := 30) (v := nI 0) dX12_isOpen_30 (by decide) ?_
        refine a_zret (pc := 31) dX12_isOpen_31 rfl (by first | rfl | exact bI_nar _ | decide) (zf hz) ?_
        first | (rw [show opC v o.2.1 r = true by simp [opC, opV, ga, *]] at k; exact k) | (rw [show opC v o.2.1 r = false by simp [opC, opV, ga, *]] at k; exact k)
      · refine a_iconst (pc := 26) (v := nI 1) dX12_isOpen_26 (by decide) ?_
        refine a_goto (pc := 27) (tgt := 31) dX12_isOpen_27 (by decide) ?_
        refine a_zret (pc := 31) dX12_isOpen_31 rfl (by first | rfl | exact bI_nar _ | decide) (zf hz) ?_
        first | (rw [show opC v o.2.1 r = true by simp [opC, opV, ga, *]] at k; exact k) | (rw [show opC v o.2.1 r = false by simp [opC, opV, ga, *]] at k; exact k)
set_option maxRecDepth 100000 in
set_option maxHeartbeats 4000000 in
theorem m_isAtDark {G : Cx} {d : Nat} {h h0 : List va_E} {b : MB} {p : MP} {t : MT} {o : MO} {Q : Option Value → List va_E → Prop} (hd : 6 ≤ d) (hz : gz G = false) (hm : MS G h0 h (b, p, t, o)) {v : Cv} (hv : HV (b, p, t, o) v) (okv : okC v) {r : Nat} (hr : r < 36) (k : Q (some (.int (bI (ga v r)))) h) : AM G yX12_isAtDark cX12_isAtDark 2 (some .boolean) d 0 0 [.ref (gB G + 80), .int (nI (r))] h Q := by
  obtain ⟨d, rfl, he⟩ := dpos hd
  refine AM.of [some (.ref (gB G + 80)), some (.int (nI (r)))] pnX12 (Nat.le_of_ble_eq_true rfl) (by simp [lsub, lvI, Value.category]) ?_
  refine a_aloadn_0 (pc := 0) dX12_isAtDark_0 ?_
  refine a_iloadn_1 (pc := 1) dX12_isAtDark_1 ?_
  refine cv_X12_199 (pc := 2) rfl dX12_isAtDark_2 hm.2.2.1 (Nat.le_of_ble_eq_true rfl) ?_
  have dl := dB_lt (cK v) (r := r) (by omega)
  refine m_darkBeside (by omega) hz hm hv okv (by omega) ?_
  refine n_if_le (tgt := 12) dX12_isAtDark_5 (by decide) (by omega) (fun c_5 => ?_) (fun c_5 => ?_)
  · refine a_iconst (pc := 12) (v := nI 0) dX12_isAtDark_12 (by decide) ?_
    refine a_zret (pc := 13) dX12_isAtDark_13 rfl (by first | rfl | exact bI_nar _ | decide) (zf hz) ?_
    first | (rw [show ga v r = true from decide_eq_true (by omega)] at k; exact k) | (rw [show ga v r = false from decide_eq_false (by omega)] at k; exact k)
  · refine a_iconst (pc := 8) (v := nI 1) dX12_isAtDark_8 (by decide) ?_
    refine a_goto (pc := 9) (tgt := 13) dX12_isAtDark_9 (by decide) ?_
    refine a_zret (pc := 13) dX12_isAtDark_13 rfl (by first | rfl | exact bI_nar _ | decide) (zf hz) ?_
    first | (rw [show ga v r = true from decide_eq_true (by omega)] at k; exact k) | (rw [show ga v r = false from decide_eq_false (by omega)] at k; exact k)
set_option maxRecDepth 100000 in
set_option maxHeartbeats 4000000 in
theorem m_stepsIn {G : Cx} {d : Nat} {h h0 : List va_E} {b : MB} {p : MP} {t : MT} {o : MO} {Q : Option Value → List va_E → Prop} (hd : 9 ≤ d) (hz : gz G = false) (hm : MS G h0 h (b, p, t, o)) {v : Cv} (hv : HV (b, p, t, o) v) (okv : okC v) {r : Nat} (hr : r < 36) (k : ∀ h1 S y, WL (opC v o.2.1) (ga v) r y → MS G h0 h1 (b, p, t, (S, o.2)) → Q (some (.int (nI y))) h1) : AM G yX12_stepsIn cX12_stepsIn 7 (some .int) d 0 0 [.ref (gB G + 80), .int (nI (r))] h Q := by
  obtain ⟨d, rfl, he⟩ := dpos hd
  obtain ⟨Op, hOp⟩ : ∃ Op, Op = opC v o.2.1 := ⟨_, rfl⟩
  obtain ⟨Ga, hGa⟩ : ∃ Ga, Ga = ga v := ⟨_, rfl⟩
  rw [← hOp, ← hGa] at k
  have hvS : ∀ S, HV (b, p, t, (S, o.2)) v := fun S => hv
  
  refine AM.of [some (.ref (gB G + 80)), some (.int (nI (r))), none, none, none, none, none] pnX12 (Nat.le_of_ble_eq_true rfl) (by simp [lsub, lvI, Value.category]) ?_
  refine a_iconst (pc := 0) (v := nI 0) dX12_stepsIn_0 (by decide) ?_
  refine a_istoren_2 (pc := 1) dX12_stepsIn_1 (by decide) (by first | rfl | trivial) ?_
  have l1 : ∀ (n : Nat) (i : Nat) (S : Nat → Nat) (h1 : List va_E), 37 - i < n → (i ≤ 36) → (∀ j, j < i → S j = (itr Op Ga 0 j).toNat) → (MS G h0 h1 (b, p, t, (S, o.2))) → AW G yX12_stepsIn cX12_stepsIn 7 (some .int) (rmx (d + 1) 0 0) (ZQ G 0 0 (h.length + 0) Q) 0 0 2 [some (.ref (gB G + 80)), some (.int (nI (r))), some (.int (nI (i))), none, none, none, none] [] h1 := by
    intro n
    induction n with
    | zero => intro i S h1 hn; exact absurd hn (Nat.not_lt_zero _)
    | succ n ih =>
      intro i S h1 hn hi hS hm1
      refine a_iloadn_2 (pc := 2) dX12_stepsIn_2 ?_
      refine a_bipush (pc := 3) (v := nI 36) dX12_stepsIn_3 (by decide) ?_
      refine n_icmp_ge (tgt := 41) dX12_stepsIn_5 (by decide) (by omega) (by decide) (fun c_5 => ?_) (fun c_5 => ?_)
      · refine a_iconst (pc := 41) (v := nI 1) dX12_stepsIn_41 (by decide) ?_
        refine a_topi (bI true) (by decide) ?_
        refine a_istoren_2 (pc := 42) dX12_stepsIn_42 (by decide) (by first | rfl | trivial) ?_
        refine a_iconst (pc := 43) (v := nI 1) dX12_stepsIn_43 (by decide) ?_
        refine a_istoren_3 (pc := 44) dX12_stepsIn_44 (by decide) (by first | rfl | trivial) ?_
        have hT0 : ∀ j, j < 36 → ST1 Op Ga (0 + 1) (S j) j := fun j hj => by
          have q := hS j (by omega)
          have q : S j = (Op j && Ga j).toNat := q
          cases z : (Op j && Ga j) with
          | false => exact Or.inl ⟨by rw [q, z]; rfl, by show (icl Op Ga 0 j || itr Op Ga 0 j) = false; show (false || (Op j && Ga j)) = false; rw [z]; rfl⟩
          | true => exact Or.inr ⟨0, by omega, by rw [q, z]; rfl, fr_iff.mpr ⟨z, rfl⟩⟩
        have l2 : ∀ (n : Nat) (e : Nat) (g : Bool) (S : Nat → Nat) (h1 : List va_E), 38 - e < n → (e ≤ 36) → (∀ j, j < 36 → ST1 Op Ga (e + 1) (S j) j) → (g = false → ∀ k, k < 36 → fr Op Ga e k = false) → (g = true → e < 36) → (MS G h0 h1 (b, p, t, (S, o.2))) → AW G yX12_stepsIn cX12_stepsIn 7 (some .int) (rmx (d + 1) 0 0) (ZQ G 0 0 (h.length + 0) Q) 0 0 45 [some (.ref (gB G + 80)), some (.int (nI (r))), some (.int (bI (g))), some (.int (nI (e + 1))), none, none, none] [] h1 := by
          intro n
          induction n with
          | zero => intro e g S h1 hn; exact absurd hn (Nat.not_lt_zero _)
          | succ n ihn =>
            intro e g S h1 hn he36 hT hg0 hg1 hm1
            refine a_iloadn_2 (pc := 45) dX12_stepsIn_45 ?_
            refine b_if_eq (pc := 46) (tgt := 144) dX12_stepsIn_46 (by decide) (fun c_46 => ?_) (fun c_46 => ?_)
            · refine a_aloadn_0 (pc := 144) dX12_stepsIn_144 ?_
              refine mg_40 hm1 rfl dX12_stepsIn_145 ?_
              refine a_iloadn_1 (pc := 148) dX12_stepsIn_148 ?_
              refine ml_steps (x := S r) hm1 dX12_stepsIn_149 (by omega) rfl ?_
              exact a_iret (pc := 150) dX12_stepsIn_150 rfl (zf hz) (k _ _ _ (st_end (hT r (by omega)) (hg0 c_46) (by omega)) hm1)
            · have e36 := hg1 c_46
              refine a_iconst (pc := 49) (v := nI 0) dX12_stepsIn_49 (by decide) ?_
              refine a_topi (bI false) (by decide) ?_
              refine a_istoren_2 (pc := 50) dX12_stepsIn_50 (by decide) (by first | rfl | trivial) ?_
              refine a_iconst (pc := 51) (v := nI 0) dX12_stepsIn_51 (by decide) ?_
              refine a_istore_4 (pc := 52) dX12_stepsIn_52 (by decide) (by first | rfl | trivial) ?_
              have l3 : ∀ (n : Nat) (i : Nat) (g2 : Bool) (S2 : Nat → Nat) (h1 : List va_E), 37 - i < n → (i ≤ 36) → (PSI Op Ga e i S2 g2) → (MS G h0 h1 (b, p, t, (S2, o.2))) → AW G yX12_stepsIn cX12_stepsIn 7 (some .int) (rmx (d + 1) 0 0) (ZQ G 0 0 (h.length + 0) Q) 0 0 54 [some (.ref (gB G + 80)), some (.int (nI (r))), some (.int (bI (g2))), some (.int (nI (e + 1))), some (.int (nI (i))), none, none] [] h1 := by
                intro n
                induction n with
                | zero => intro i g2 S2 h1 hn; exact absurd hn (Nat.not_lt_zero _)
                | succ n ihi =>
                  intro i g2 S2 h1 hn hi hP hm1
                  refine a_iload_4 (pc := 54) dX12_stepsIn_54 ?_
                  refine a_bipush (pc := 56) (v := nI 36) dX12_stepsIn_56 (by decide) ?_
                  refine n_icmp_ge (tgt := 138) dX12_stepsIn_58 (by decide) (by omega) (by decide) (fun c_58 => ?_) (fun c_58 => ?_)
                  · have i36 : i = 36 := by omega
                    subst i36
                    refine a_iinc_3 (pc := 138) (v := nI (e + 1 + 1)) dX12_stepsIn_138 (nI_add _ _) (by decide) (by first | rfl | trivial) ?_
                    refine a_goto (pc := 141) (tgt := 45) dX12_stepsIn_141 (by decide) ?_
                    refine a_ls (ls' := [some _, some _, some _, some _, none, none, none]) ⟨rfl, rfl, rfl, rfl, trivial⟩ ?_
                    exact ihn (e + 1) _ _ _ (by omega) (by omega) (ps_T hP) (ps_g0 hP) (ps_g1 hP) hm1
                  · refine a_iconst (pc := 61) (v := nI 0) dX12_stepsIn_61 (by decide) ?_
                    refine a_istore_5 (pc := 62) dX12_stepsIn_62 (by decide) (by first | rfl | trivial) ?_
                    have l4 : ∀ (n : Nat) (w : Nat) (g3 : Bool) (S3 : Nat → Nat) (h1 : List va_E), 5 - w < n → (w ≤ 4) → (INX Op Ga e i w S2 g2 S3 g3) → (MS G h0 h1 (b, p, t, (S3, o.2))) → AW G yX12_stepsIn cX12_stepsIn 7 (some .int) (rmx (d + 1) 0 0) (ZQ G 0 0 (h.length + 0) Q) 0 0 64 [some (.ref (gB G + 80)), some (.int (nI (r))), some (.int (bI (g3))), some (.int (nI (e + 1))), some (.int (nI (i))), some (.int (nI (w))), none] [] h1 := by
                      intro n
                      induction n with
                      | zero => intro w g3 S3 h1 hn; exact absurd hn (Nat.not_lt_zero _)
                      | succ n ihw =>
                        intro w g3 S3 h1 hn hw hX hm1
                        refine a_iload_5 (pc := 64) dX12_stepsIn_64 ?_
                        refine a_iconst (pc := 66) (v := nI 4) dX12_stepsIn_66 (by decide) ?_
                        refine n_icmp_ge (tgt := 132) dX12_stepsIn_67 (by decide) (by omega) (by decide) (fun c_67 => ?_) (fun c_67 => ?_)
                        · have hO := inx_4 (by omega) (by omega) hX
                          refine a_iinc_4 (pc := 132) (v := nI (i + 1)) dX12_stepsIn_132 (nI_add _ _) (by decide) (by first | rfl | trivial) ?_
                          refine a_goto (pc := 135) (tgt := 54) dX12_stepsIn_135 (by decide) ?_
                          refine a_ls (ls' := [some _, some _, some _, some _, some _, none, none]) ⟨rfl, rfl, rfl, rfl, rfl, trivial⟩ ?_
                          exact ihi (i + 1) _ _ _ (by omega) (by omega) (ps_next hP (by omega) hO) hm1
                        · have s1 := inx_le hP hX (j := i) (by omega)
                          refine a_aloadn_0 (pc := 70) dX12_stepsIn_70 ?_
                          refine mg_40 hm1 rfl dX12_stepsIn_71 ?_
                          refine a_iload_4 (pc := 74) dX12_stepsIn_74 ?_
                          refine ml_steps (x := S3 i) hm1 dX12_stepsIn_76 (by omega) rfl ?_
                          refine n_if_ne (tgt := 132) dX12_stepsIn_77 (by decide) (by omega) (fun c_77 => ?_) (fun c_77 => ?_)
                          · have hO := inx_S hP (by omega) hX (by omega)
                            refine a_iinc_4 (pc := 132) (v := nI (i + 1)) dX12_stepsIn_132 (nI_add _ _) (by decide) (by first | rfl | trivial) ?_
                            refine a_goto (pc := 135) (tgt := 54) dX12_stepsIn_135 (by decide) ?_
                            refine a_ls (ls' := [some _, some _, some _, some _, some _, none, none]) ⟨rfl, rfl, rfl, rfl, rfl, trivial⟩ ?_
                            exact ihi (i + 1) _ _ _ (by omega) (by omega) (ps_next hP (by omega) hO) hm1
                          · have s0 := c_77
                            refine a_aloadn_0 (pc := 80) dX12_stepsIn_80 ?_
                            refine a_iload_4 (pc := 81) dX12_stepsIn_81 ?_
                            refine cv_X12_260 (pc := 83) rfl dX12_stepsIn_83 hm1.2.2.1 (Nat.le_of_ble_eq_true rfl) ?_
                            refine m_isOpen (by omega) hz hm1 (hvS _) okv (by omega) ?_
                            refine a_topi (bI (Op i)) (by rw [hOp]) ?_
                            refine b_if_eq (pc := 86) (tgt := 132) dX12_stepsIn_86 (by decide) (fun c_86 => ?_) (fun c_86 => ?_)
                            · have hO := inx_op hX s0 c_86
                              refine a_iinc_4 (pc := 132) (v := nI (i + 1)) dX12_stepsIn_132 (nI_add _ _) (by decide) (by first | rfl | trivial) ?_
                              refine a_goto (pc := 135) (tgt := 54) dX12_stepsIn_135 (by decide) ?_
                              refine a_ls (ls' := [some _, some _, some _, some _, some _, none, none]) ⟨rfl, rfl, rfl, rfl, rfl, trivial⟩ ?_
                              exact ihi (i + 1) _ _ _ (by omega) (by omega) (ps_next hP (by omega) hO) hm1
                            · refine a_iload_4 (pc := 89) dX12_stepsIn_89 ?_
                              refine a_iload_5 (pc := 91) dX12_stepsIn_91 ?_
                              refine cs_X12_193 (pc := 93) rfl dX12_stepsIn_93 (Nat.le_of_ble_eq_true rfl) ?_
                              refine m_beside (by omega) hz (by omega) (by omega) ?_
                              cases hb5 : bsd i w with
                              | none =>
                                have hN := inx_nx hX s0 (fun o9 q => by rw [hb5] at q; cases q)
                                refine a_istore_6 (pc := 96) dX12_stepsIn_96 (by decide) (by first | rfl | trivial) ?_
                                refine a_iload_6 (pc := 98) dX12_stepsIn_98 ?_
                                refine a_if_lt (pc := 100) (tgt := 126) dX12_stepsIn_100 (by decide) (fun c_100 => ?_) (fun c_100 => absurd c_100 (by decide))
                                refine a_iinc_5 (pc := 126) (v := nI (w + 1)) dX12_stepsIn_126 (nI_add _ _) (by decide) (by first | rfl | trivial) ?_
                                refine a_goto (pc := 129) (tgt := 64) dX12_stepsIn_129 (by decide) ?_
                                refine a_ls (ls' := [some _, some _, some _, some _, some _, some _, none, none]) ⟨rfl, rfl, rfl, rfl, rfl, rfl, trivial⟩ ?_
                                exact ihw (w + 1) _ _ _ (by omega) (by omega) hN hm1
                              | some o9 =>
                                have o36 := bsd_lt (by omega) hb5
                                have s2 := inx_le hP hX (j := o9) (by omega)
                                refine a_topi (nI o9) rfl ?_
                                refine a_istore_6 (pc := 96) dX12_stepsIn_96 (by decide) (by first | rfl | trivial) ?_
                                refine a_iload_6 (pc := 98) dX12_stepsIn_98 ?_
                                refine n_if_lt (tgt := 126) dX12_stepsIn_100 (by decide) (by omega) ?_
                                refine a_aloadn_0 (pc := 103) dX12_stepsIn_103 ?_
                                refine mg_40 hm1 rfl dX12_stepsIn_104 ?_
                                refine a_iload_6 (pc := 107) dX12_stepsIn_107 ?_
                                refine ml_steps (x := S3 o9) hm1 dX12_stepsIn_109 (by omega) rfl ?_
                                refine a_iloadn_3 (pc := 110) dX12_stepsIn_110 ?_
                                refine n_icmp_ne (tgt := 126) dX12_stepsIn_111 (by decide) (by omega) (by omega) (fun c_111 => ?_) (fun c_111 => ?_)
                                · have hN := inx_ne hP hX s0 o36 hb5 c_111
                                  refine a_iinc_5 (pc := 126) (v := nI (w + 1)) dX12_stepsIn_126 (nI_add _ _) (by decide) (by first | rfl | trivial) ?_
                                  refine a_goto (pc := 129) (tgt := 64) dX12_stepsIn_129 (by decide) ?_
                                  refine a_ls (ls' := [some _, some _, some _, some _, some _, some _, none, none]) ⟨rfl, rfl, rfl, rfl, rfl, rfl, trivial⟩ ?_
                                  exact ihw (w + 1) _ _ _ (by omega) (by omega) hN hm1
                                · have hN := inx_eq hP (by omega) (by omega) hX s0 c_86 o36 hb5 c_111
                                  refine a_aloadn_0 (pc := 114) dX12_stepsIn_114 ?_
                                  refine mg_40 hm1 rfl dX12_stepsIn_115 ?_
                                  refine a_iload_4 (pc := 118) dX12_stepsIn_118 ?_
                                  refine a_iloadn_3 (pc := 120) dX12_stepsIn_120 ?_
                                  refine a_iconst (pc := 121) (v := nI 1) dX12_stepsIn_121 (by decide) ?_
                                  refine n_iadd dX12_stepsIn_122 ?_
                                  refine ms_steps (j := i) (x := e + 1 + 1) hm1 dX12_stepsIn_123 (by omega) (fun h10 hm10 => ?_)
                                  refine a_iconst (pc := 124) (v := nI 1) dX12_stepsIn_124 (by decide) ?_
                                  refine a_topi (bI true) (by decide) ?_
                                  refine a_istoren_2 (pc := 125) dX12_stepsIn_125 (by decide) (by first | rfl | trivial) ?_
                                  refine a_iinc_5 (pc := 126) (v := nI (w + 1)) dX12_stepsIn_126 (nI_add _ _) (by decide) (by first | rfl | trivial) ?_
                                  refine a_goto (pc := 129) (tgt := 64) dX12_stepsIn_129 (by decide) ?_
                                  refine a_ls (ls' := [some _, some _, some _, some _, some _, some _, none, none]) ⟨rfl, rfl, rfl, rfl, rfl, rfl, trivial⟩ ?_
                                  exact ihw (w + 1) _ _ _ (by omega) (by omega) hN hm10
                    exact l4 6 0 _ _ _ (by omega) (by omega) (Or.inl ⟨rfl, rfl, fun w' hw => absurd hw (Nat.not_lt_zero _)⟩) hm1
              exact l3 38 0 _ _ _ (by omega) (by omega) (psi_0 hT) hm1
        exact l2 39 0 _ _ _ (by omega) (by omega) hT0 (fun q => (by cases q)) (fun _ => by omega) hm1
      · refine a_aloadn_0 (pc := 8) dX12_stepsIn_8 ?_
        refine mg_40 hm1 rfl dX12_stepsIn_9 ?_
        refine a_iloadn_2 (pc := 12) dX12_stepsIn_12 ?_
        refine a_aloadn_0 (pc := 13) dX12_stepsIn_13 ?_
        refine a_iloadn_2 (pc := 14) dX12_stepsIn_14 ?_
        refine cv_X12_260 (pc := 15) rfl dX12_stepsIn_15 hm1.2.2.1 (Nat.le_of_ble_eq_true rfl) ?_
        refine m_isOpen (by omega) hz hm1 (hvS _) okv (by omega) ?_
        refine a_topi (bI (Op i)) (by rw [hOp]) ?_
        refine b_if_eq (pc := 18) (tgt := 33) dX12_stepsIn_18 (by decide) (fun c_18 => ?_) (fun c_18 => ?_)
        · refine a_iconst (pc := 33) (v := nI 0) dX12_stepsIn_33 (by decide) ?_
          refine ms_steps (j := i) (x := 0) hm1 dX12_stepsIn_34 (by omega) (fun h4 hm4 => ?_)
          refine a_iinc_2 (pc := 35) (v := nI (i + 1)) dX12_stepsIn_35 (nI_add _ _) (by decide) (by first | rfl | trivial) ?_
          refine a_goto (pc := 38) (tgt := 2) dX12_stepsIn_38 (by decide) ?_
          exact ih (i + 1) _ _ (by omega) (by omega) (fun j hj => by
            unfold va_up; split
            · rename_i q; subst q; show _ = (Op j && Ga j).toNat; simp [c_5, c_18]
            · exact hS j (by omega)) hm4
        · refine a_aloadn_0 (pc := 21) dX12_stepsIn_21 ?_
          refine a_iloadn_2 (pc := 22) dX12_stepsIn_22 ?_
          refine cv_X12_263 (pc := 23) rfl dX12_stepsIn_23 hm1.2.2.1 (Nat.le_of_ble_eq_true rfl) ?_
          refine m_isAtDark (by omega) hz hm1 (hvS _) okv (by omega) ?_
          refine a_topi (bI (Ga i)) (by rw [hGa]) ?_
          refine b_if_eq (pc := 26) (tgt := 33) dX12_stepsIn_26 (by decide) (fun c_26 => ?_) (fun c_26 => ?_)
          · refine a_iconst (pc := 33) (v := nI 0) dX12_stepsIn_33 (by decide) ?_
            refine ms_steps (j := i) (x := 0) hm1 dX12_stepsIn_34 (by omega) (fun h4 hm4 => ?_)
            refine a_iinc_2 (pc := 35) (v := nI (i + 1)) dX12_stepsIn_35 (nI_add _ _) (by decide) (by first | rfl | trivial) ?_
            refine a_goto (pc := 38) (tgt := 2) dX12_stepsIn_38 (by decide) ?_
            exact ih (i + 1) _ _ (by omega) (by omega) (fun j hj => by
              unfold va_up; split
              · rename_i q; subst q; show _ = (Op j && Ga j).toNat; simp [c_5, c_18, c_26]
              · exact hS j (by omega)) hm4
          · refine a_iconst (pc := 29) (v := nI 1) dX12_stepsIn_29 (by decide) ?_
            refine a_goto (pc := 30) (tgt := 34) dX12_stepsIn_30 (by decide) ?_
            refine ms_steps (j := i) (x := 1) hm1 dX12_stepsIn_34 (by omega) (fun h4 hm4 => ?_)
            refine a_iinc_2 (pc := 35) (v := nI (i + 1)) dX12_stepsIn_35 (nI_add _ _) (by decide) (by first | rfl | trivial) ?_
            refine a_goto (pc := 38) (tgt := 2) dX12_stepsIn_38 (by decide) ?_
            exact ih (i + 1) _ _ (by omega) (by omega) (fun j hj => by
              unfold va_up; split
              · rename_i q; subst q; show _ = (Op j && Ga j).toNat; simp [c_5, c_18, c_26]
              · exact hS j (by omega)) hm4
  exact l1 38 0 _ _ (by omega) (by omega) (fun j hj => absurd hj (Nat.not_lt_zero j)) hm
