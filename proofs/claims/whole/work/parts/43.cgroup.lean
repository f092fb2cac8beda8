/-- what the parts of a text mean -/
def TD (x : Tx) (D : Nat → Ex) : Prop := 6 ≤ tP x ∧ (∀ i, i < 6 → D i = fun nm => nm i) ∧ ∀ i, 6 ≤ i → i < tP x → (tS x i = 48 ∧ D i = fun _ => tV x i) ∨ (tS x i ∈ opS ∧ tL x i < i ∧ tR x i < i ∧ D i = fun nm => joinV (tS x i) (D (tL x i) nm) (D (tR x i) nm))
abbrev xadd (x : Tx) (s a z : Nat) : Tx := xP (xR (xL (xS x (va_up (tS x) (tP x) s)) (va_up (tL x) (tP x) a)) (va_up (tR x) (tP x) z)) (tP x + 1)
abbrev xnum (x : Tx) (v : Int32) : Tx := xV (xadd x 48 0 0) (upd (tV x) (tP x) v)
theorem up_ne {α : Type} {f : Nat → α} {j i : Nat} {v : α} (h : i ≠ j) : va_up f j v i = f i := by unfold va_up; rw [if_neg h]
theorem up_eq {α : Type} {f : Nat → α} {j : Nat} {v : α} : va_up f j v j = v := by unfold va_up; rw [if_pos rfl]
theorem TD_add {x : Tx} {D : Nat → Ex} {s a z : Nat} (H : TD x D) (hs : s ∈ opS) (ha : a < tP x) (hz : z < tP x) : TD (xadd x s a z) (va_up D (tP x) (fun nm => joinV s (D a nm) (D z nm))) := by
  obtain ⟨h1, h2, h3⟩ := H
  refine ⟨Nat.le_succ_of_le h1, fun i hi => by rw [up_ne (by omega)]; exact h2 i hi, fun i h6 hi => ?_⟩
  have hi : i < tP x + 1 := hi
  by_cases e : i = tP x
  · subst e
    refine Or.inr ?_
    show va_up (tS x) (tP x) s (tP x) ∈ opS ∧ va_up (tL x) (tP x) a (tP x) < tP x ∧ va_up (tR x) (tP x) z (tP x) < tP x ∧ va_up D (tP x) (fun nm => joinV s (D a nm) (D z nm)) (tP x) = fun nm => joinV (va_up (tS x) (tP x) s (tP x)) (va_up D (tP x) (fun nm => joinV s (D a nm) (D z nm)) (va_up (tL x) (tP x) a (tP x)) nm) (va_up D (tP x) (fun nm => joinV s (D a nm) (D z nm)) (va_up (tR x) (tP x) z (tP x)) nm)
    rw [up_eq, up_eq, up_eq, up_eq, up_ne (by omega), up_ne (by omega)]
    exact ⟨hs, ha, hz, rfl⟩
  · show (va_up (tS x) (tP x) s i = 48 ∧ va_up D (tP x) _ i = _) ∨ (va_up (tS x) (tP x) s i ∈ opS ∧ va_up (tL x) (tP x) a i < i ∧ va_up (tR x) (tP x) z i < i ∧ va_up D (tP x) _ i = fun nm => joinV (va_up (tS x) (tP x) s i) (va_up D (tP x) _ (va_up (tL x) (tP x) a i) nm) (va_up D (tP x) _ (va_up (tR x) (tP x) z i) nm))
    rw [up_ne e, up_ne e, up_ne e, up_ne e]
    rcases h3 i h6 (by omega) with h | ⟨g1, g2, g3, g4⟩
    · exact Or.inl h
    · rw [up_ne (show tL x i ≠ tP x by omega), up_ne (show tR x i ≠ tP x by omega)]
      exact Or.inr ⟨g1, g2, g3, g4⟩
theorem TD_num {x : Tx} {D : Nat → Ex} {v : Int32} (H : TD x D) : TD (xnum x v) (va_up D (tP x) (fun _ => v)) := by
  obtain ⟨h1, h2, h3⟩ := H
  refine ⟨Nat.le_succ_of_le h1, fun i hi => by rw [up_ne (by omega)]; exact h2 i hi, fun i h6 hi => ?_⟩
  have hi : i < tP x + 1 := hi
  by_cases e : i = tP x
  · subst e
    refine Or.inl ?_
    show va_up (tS x) (tP x) 48 (tP x) = 48 ∧ va_up D (tP x) (fun _ => v) (tP x) = fun _ => upd (tV x) (tP x) v (tP x)
    rw [up_eq, up_eq]
    refine ⟨rfl, ?_⟩
    unfold upd
    rw [if_pos rfl]
  · show (va_up (tS x) (tP x) 48 i = 48 ∧ va_up D (tP x) _ i = fun _ => upd (tV x) (tP x) v i) ∨ (va_up (tS x) (tP x) 48 i ∈ opS ∧ va_up (tL x) (tP x) 0 i < i ∧ va_up (tR x) (tP x) 0 i < i ∧ va_up D (tP x) _ i = fun nm => joinV (va_up (tS x) (tP x) 48 i) (va_up D (tP x) _ (va_up (tL x) (tP x) 0 i) nm) (va_up D (tP x) _ (va_up (tR x) (tP x) 0 i) nm))
    rw [up_ne e, up_ne e, up_ne e, up_ne e]
    rcases h3 i h6 (by omega) with ⟨g1, g2⟩ | ⟨g1, g2, g3, g4⟩
    · refine Or.inl ⟨g1, ?_⟩
      unfold upd
      rw [if_neg e]
      exact g2
    · rw [up_ne (show tL x i ≠ tP x by omega), up_ne (show tR x i ≠ tP x by omega)]
      exact Or.inr ⟨g1, g2, g3, g4⟩
/-- behind the reading of a part -/
def CP (G : Cx) (h0 : List va_E) (t : Nat) (b : Nat → Nat) (n p : Nat) (x : Tx) (D : Nat → Ex) (r : Nat ⊕ (Nat × Ex)) (h1 : List va_E) (v : Int32) : Prop := match r with
  | .inr (q, e) => ∃ x1 D1 j, RS G h0 h1 t b n q (-1) x1 ∧ TD x1 D1 ∧ (tP x ≤ tP x1 ∧ tP x1 + p ≤ tP x + q) ∧ (∀ i, i < tP x → D1 i = D i) ∧ (tN x1 = tN x ∧ tF x1 = tF x ∧ tD x1 = tD x) ∧ j < tP x1 ∧ D1 j = e ∧ v = nI j
  | .inl f => ∃ x1 p1 j, RS G h0 h1 t b n p1 (nI f) x1 ∧ tP x1 ≤ 126 ∧ tN x1 = tN x ∧ p1 < 1000 ∧ j ≤ 126 ∧ v = nI j
def inC (c : Nat → Nat) (r : Nat ⊕ (Nat × Ex)) : Nat ⊕ (Nat × Ex) := match r with
  | .inr (q, e) => if c q = 41 then .inr (q + 1, e) else .inl q
  | .inl f => .inl f
def CL (G : Cx) (h0 : List va_E) (t : Nat) (b : Nat → Nat) (n : Nat) (c : Nat → Nat) (k : Nat) : Prop := ∀ (md : Nat) (d : Nat) (h : List va_E) (p op : Nat) (acc : Ex) (Q : Option Value → List va_E → Prop) (r : Nat ⊕ (Nat × Ex)) (x : Tx) (D : Nat → Ex), 9 * (6 - op) + (5 - md) + 5 ≤ d → op ≤ 6 → md ≤ 5 → p ≤ n → tP x ≤ 6 + p → ps c k md op p acc = some r → RS G h0 h t b n p (-1) x → TD x D → (∀ h1 v, CP G h0 t b n p x D r h1 v → Q (some (.int v)) h1) → AM G yX3_readLevel cX3_readLevel 6 (some .int) d 0 0 [.ref (gB G + 16), .int (nI (md)), .int (nI (op))] h Q
def CO (G : Cx) (h0 : List va_E) (t : Nat) (b : Nat → Nat) (n : Nat) (c : Nat → Nat) (k : Nat) : Prop := ∀ (d : Nat) (h : List va_E) (p op : Nat) (acc : Ex) (Q : Option Value → List va_E → Prop) (r : Nat ⊕ (Nat × Ex)) (x : Tx) (D : Nat → Ex), 9 * (6 - op) + 4 ≤ d → op ≤ 6 → p ≤ n → tP x ≤ 6 + p → ps c k 5 op p acc = some r → RS G h0 h t b n p (-1) x → TD x D → (∀ h1 v, CP G h0 t b n p x D r h1 v → Q (some (.int v)) h1) → AM G yX3_readOperand cX3_readOperand 5 (some .int) d 0 0 [.ref (gB G + 16), .int (nI (op))] h Q
def CI (G : Cx) (h0 : List va_E) (t : Nat) (b : Nat → Nat) (n : Nat) (c : Nat → Nat) (k : Nat) : Prop := ∀ (d : Nat) (h : List va_E) (p op : Nat) (acc : Ex) (Q : Option Value → List va_E → Prop) (r : Nat ⊕ (Nat × Ex)) (x : Tx) (D : Nat → Ex), 9 * (6 - op) + 11 ≤ d → op ≤ 6 → p ≤ n → tP x ≤ 6 + p → ps c k 0 op p acc = some r → RS G h0 h t b n p (-1) x → TD x D → (∀ h1 v, CP G h0 t b n p x D (inC c r) h1 v → Q (some (.int v)) h1) → AM G yX3_readInner cX3_readInner 3 (some .int) d 0 0 [.ref (gB G + 16), .int (nI (op))] h Q
set_option maxRecDepth 100000 in
set_option maxHeartbeats 4000000 in
theorem r_readNumber {G : Cx} {d t n p : Nat} {h h0 : List va_E} {b : Nat → Nat} {x : Tx} {Q : Option Value → List va_E → Prop} {c : Nat → Nat} (hd : 3 ≤ d) (hz : gz G = false) (hm : RS G h0 h t b n p (-1) x) (hb : BYC b n c) (hp9 : p < 1000) (hdg : dgO (c p) = true) (hPp : tP x ≤ 6 + p) (k : ∀ h1, RS G h0 h1 t b n (nums c 4 p 0).1 (-1) (xnum x (nI (nums c 4 p 0).2)) → Q (some (.int (nI (tP x)))) h1) : AM G yX3_readNumber cX3_readNumber 3 (some .int) d 0 0 [.ref (gB G + 16)] h Q := by
  obtain ⟨d, rfl, he⟩ := dpos hd
  obtain ⟨hn, hc0, h255, hbc⟩ := id hb
  have hpn0 := ch_lt hc0 (show 0 < c p by have := dgO_iff.mp hdg; omega)
  have lp : ∀ (m i : Nat) (h1 : List va_E) (v : Nat), 4 - i < m → i ≤ 4 → nums c (4 - i) (p + i) v = nums c 4 p 0 → RS G h0 h1 t b n (p + i) (-1) x → AW G yX3_readNumber cX3_readNumber 3 (some .int) (rmx (d + 1) 0 0) (ZQ G 0 0 (h.length + 0) Q) 0 0 4 [some (.ref (gB G + 16)), some (.int (nI (v))), some (.int (nI (i)))] [] h1 := by
    intro m
    induction m with
    | zero => intro i h1 v q; exact absurd q (Nat.not_lt_zero _)
    | succ m ih =>
      intro i h1 v hm9 hi4 hN hm1
      refine a_iloadn_2 (pc := 4) dX3_readNumber_4 ?_
      refine a_iconst (pc := 5) (v := nI 4) dX3_readNumber_5 (by decide) ?_
      refine n_icmp_ge (tgt := 48) dX3_readNumber_6 (by decide) (by omega) (by decide) (fun c_6 => ?_) (fun c_6 => ?_)
      · have hx9 : nums c 4 p 0 = (p + i, v) := by rw [← hN, show 4 - i = 0 by omega, nums]
        refine a_aloadn_0 (pc := 48) dX3_readNumber_48 ?_
        refine rg_18 hm1 rfl dX3_readNumber_49 ?_
        refine a_iloadn_1 (pc := 52) dX3_readNumber_52 ?_
        refine cv_X3_74 (pc := 53) rfl dX3_readNumber_53 hm1.tx.1 (Nat.le_of_ble_eq_true rfl) ?_
        refine r_addNumber (by omega) hz hm1 (by omega) (fun h8 hm8 => ?_)
        exact a_iret (pc := 56) dX3_readNumber_56 rfl (zf hz) (k _ (by rw [hx9]; exact hm8))
      · refine a_aloadn_0 (pc := 9) dX3_readNumber_9 ?_
        refine cv_X3_38 (pc := 10) rfl dX3_readNumber_10 hm1.ob (Nat.le_of_ble_eq_true rfl) ?_
        refine r_next (by omega) hz hm1 hb (by omega) ?_
        refine cs_X3_61 (pc := 13) rfl dX3_readNumber_13 (Nat.le_of_ble_eq_true rfl) ?_
        refine r_isDigit (by omega) hz hb ?_
        refine b_if_eq (pc := 16) (tgt := 48) dX3_readNumber_16 (by decide) (fun c_16 => ?_) (fun c_16 => ?_)
        · have hx9 : nums c 4 p 0 = (p + i, v) := by rw [← hN, show 4 - i = (4 - (i + 1)) + 1 by omega, nums, if_neg (by rw [c_16]; exact Bool.false_ne_true)]
          refine a_aloadn_0 (pc := 48) dX3_readNumber_48 ?_
          refine rg_18 hm1 rfl dX3_readNumber_49 ?_
          refine a_iloadn_1 (pc := 52) dX3_readNumber_52 ?_
          refine cv_X3_74 (pc := 53) rfl dX3_readNumber_53 hm1.tx.1 (Nat.le_of_ble_eq_true rfl) ?_
          refine r_addNumber (by omega) hz hm1 (by omega) (fun h8 hm8 => ?_)
          exact a_iret (pc := 56) dX3_readNumber_56 rfl (zf hz) (k _ (by rw [hx9]; exact hm8))
        · have hdg2 := dgO_iff.mp c_16
          have hpn := ch_lt hc0 (show 0 < c (p + i) by omega)
          refine a_iloadn_1 (pc := 19) dX3_readNumber_19 ?_
          refine a_bipush (pc := 20) (v := nI 10) dX3_readNumber_20 (by decide) ?_
          refine n_imul dX3_readNumber_22 ?_
          refine a_aloadn_0 (pc := 23) dX3_readNumber_23 ?_
          refine cv_X3_38 (pc := 24) rfl dX3_readNumber_24 hm1.ob (Nat.le_of_ble_eq_true rfl) ?_
          refine r_next (by omega) hz hm1 hb (by omega) ?_
          refine a_topi (nI (c ((p + i)))) (nxv_lt hpn) ?_
          refine n_iadd dX3_readNumber_27 ?_
          refine a_bipush (pc := 28) (v := nI 48) dX3_readNumber_28 (by decide) ?_
          refine n_isub dX3_readNumber_30 (by omega) ?_
          refine a_topi (nI (v * 10 + (c (p + i) - 48))) (congrArg nI (by omega)) ?_
          refine a_istoren_1 (pc := 31) dX3_readNumber_31 (by decide) (by first | rfl | trivial) ?_
          refine a_aloadn_0 (pc := 32) dX3_readNumber_32 ?_
          refine a_dup (pc := 33) dX3_readNumber_33 rfl ?_
          refine rg_26 hm1 rfl dX3_readNumber_34 ?_
          refine a_iconst (pc := 37) (v := nI 1) dX3_readNumber_37 (by decide) ?_
          refine n_iadd dX3_readNumber_38 ?_
          refine rp_26 (v := (p + i) + 1) hm1 rfl dX3_readNumber_39 (fun h21 hm21 => ?_)
          refine a_iinc_2 (pc := 42) (v := nI (i + 1)) dX3_readNumber_42 (nI_add _ _) (by decide) (by first | rfl | trivial) ?_
          refine a_goto (pc := 45) (tgt := 4) dX3_readNumber_45 (by decide) ?_
          exact ih (i + 1) _ _ (by omega) (by omega) (by rw [← hN, show 4 - i = (4 - (i + 1)) + 1 by omega, nums, if_pos c_16]; rfl) hm21
  refine AM.of [some (.ref (gB G + 16)), none, none] pnX3 (Nat.le_of_ble_eq_true rfl) (by simp [lsub, lvI, Value.category]) ?_
  refine a_iconst (pc := 0) (v := nI 0) dX3_readNumber_0 (by decide) ?_
  refine a_istoren_1 (pc := 1) dX3_readNumber_1 (by decide) (by first | rfl | trivial) ?_
  refine a_iconst (pc := 2) (v := nI 0) dX3_readNumber_2 (by decide) ?_
  refine a_istoren_2 (pc := 3) dX3_readNumber_3 (by decide) (by first | rfl | trivial) ?_
  exact lp 5 0 h 0 (by omega) (by omega) rfl hm
set_option maxRecDepth 100000 in
set_option maxHeartbeats 4000000 in
theorem ci_s {G : Cx} {h0 : List va_E} {t n : Nat} {b c : Nat → Nat} {k : Nat} (hz : gz G = false) (hb : BYC b n c) (Ik : CL G h0 t b n c k) : CI G h0 t b n c k := by
  intro d h p op acc Q r x D hd hop hp hPp H hm hTD kk
  obtain ⟨d, rfl, he⟩ := dpos (k := 9 * (6 - op) + 10) (by omega)
  obtain ⟨hn, hc0, h255, hbc⟩ := id hb
  refine AM.of [some (.ref (gB G + 16)), some (.int (nI (op))), none] pnX3 (Nat.le_of_ble_eq_true rfl) (by simp [lsub, lvI, Value.category]) ?_
  match r, H, kk with
  | .inl f, H, kk =>
    refine a_aloadn_0 (pc := 0) dX3_readInner_0 ?_
    refine a_iconst (pc := 1) (v := nI 0) dX3_readInner_1 (by decide) ?_
    refine a_iloadn_1 (pc := 2) dX3_readInner_2 ?_
    refine cv_X3_42 (pc := 3) rfl dX3_readInner_3 hm.ob (Nat.le_of_ble_eq_true rfl) ?_
    refine Ik 0 d h p op acc _ _ x D (by omega) (by omega) (by omega) (by omega) (by omega) H hm hTD (fun h2 v2 H9 => ?_)
    have hf1 := (ps_pb c n hc0 _ _ _ _ _ _ H (by omega) (by omega)).1
    obtain ⟨x2, p2, j2, hm2, hP2, hN2, hp2, hj2, rfl⟩ := H9
    refine a_istoren_2 (pc := 6) dX3_readInner_6 (by decide) (by first | rfl | trivial) ?_
    refine a_aloadn_0 (pc := 7) dX3_readInner_7 ?_
    refine rg_29 hm2 rfl dX3_readInner_8 ?_
    refine n_if_lt (tgt := 16) dX3_readInner_11 (by decide) (by omega) ?_
    refine a_iloadn_2 (pc := 14) dX3_readInner_14 ?_
    exact a_iret (pc := 15) dX3_readInner_15 rfl (zf hz) (kk _ _ ⟨x2, p2, j2, hm2, hP2, hN2, hp2, hj2, rfl⟩)
  | .inr (q, e), H, kk =>
    refine a_aloadn_0 (pc := 0) dX3_readInner_0 ?_
    refine a_iconst (pc := 1) (v := nI 0) dX3_readInner_1 (by decide) ?_
    refine a_iloadn_1 (pc := 2) dX3_readInner_2 ?_
    refine cv_X3_42 (pc := 3) rfl dX3_readInner_3 hm.ob (Nat.le_of_ble_eq_true rfl) ?_
    refine Ik 0 d h p op acc _ _ x D (by omega) (by omega) (by omega) (by omega) (by omega) H hm hTD (fun h2 v2 H9 => ?_)
    have hb2 := ps_pb c n hc0 _ _ _ _ _ _ H (by omega) (by omega)
    obtain ⟨hq2, hl2, -⟩ := hb2
    obtain ⟨x2, D2, j2, hm2, hTD2, ⟨ha2, hA2⟩, hD2, hX2, hj2, hE2, rfl⟩ := H9
    refine a_istoren_2 (pc := 6) dX3_readInner_6 (by decide) (by first | rfl | trivial) ?_
    refine a_aloadn_0 (pc := 7) dX3_readInner_7 ?_
    refine rg_29 hm2 rfl dX3_readInner_8 ?_
    refine a_if_lt (pc := 11) (tgt := 16) dX3_readInner_11 (by decide) (fun c_11 => ?_) (fun c_11 => absurd c_11 (by decide))
    refine a_aloadn_0 (pc := 16) dX3_readInner_16 ?_
    refine cv_X3_38 (pc := 17) rfl dX3_readInner_17 hm2.ob (Nat.le_of_ble_eq_true rfl) ?_
    refine r_next (by omega) hz hm2 hb (by omega) ?_
    refine a_bipush (pc := 20) (v := nI 41) dX3_readInner_20 (by decide) ?_
    refine c_icmp_ne (tgt := 38) hb (by decide) (by decide) dX3_readInner_22 (by decide) (fun c_22 => ?_) (fun c_22 => ?_)
    · have kk := kk
      refine a_aloadn_0 (pc := 38) dX3_readInner_38 ?_
      refine a_aloadn_0 (pc := 39) dX3_readInner_39 ?_
      refine rg_26 hm2 rfl dX3_readInner_40 ?_
      refine rp_29 (v := nI (q)) hm2 rfl dX3_readInner_43 (fun h21 hm21 => ?_)
      refine a_iloadn_2 (pc := 46) dX3_readInner_46 ?_
      exact a_iret (pc := 47) dX3_readInner_47 rfl (zf hz) (kk _ _ (by show CP G h0 t b n p x D (if c q = 41 then _ else _) _ _; rw [if_neg c_22]; exact ⟨x2, q, j2, hm21, by omega, hX2.1, by omega, by omega, rfl⟩))
    · 
      refine a_aloadn_0 (pc := 25) dX3_readInner_25 ?_
      refine a_dup (pc := 26) dX3_readInner_26 rfl ?_
      refine rg_26 hm2 rfl dX3_readInner_27 ?_
      refine a_iconst (pc := 30) (v := nI 1) dX3_readInner_30 (by decide) ?_
      refine n_iadd dX3_readInner_31 ?_
      refine rp_26 (v := q + 1) hm2 rfl dX3_readInner_32 (fun h21 hm21 => ?_)
      refine a_goto (pc := 35) (tgt := 46) dX3_readInner_35 (by decide) ?_
      refine a_iloadn_2 (pc := 46) dX3_readInner_46 ?_
      exact a_iret (pc := 47) dX3_readInner_47 rfl (zf hz) (kk _ _ (by show CP G h0 t b n p x D (if c q = 41 then _ else _) _ _; rw [if_pos c_22]; exact ⟨x2, D2, j2, hm21, hTD2, ⟨ha2, by omega⟩, hD2, hX2, hj2, hE2, rfl⟩))
set_option maxRecDepth 100000 in
set_option maxHeartbeats 4000000 in
theorem co_s {G : Cx} {h0 : List va_E} {t n : Nat} {b c : Nat → Nat} {k : Nat} (hz : gz G = false) (hb : BYC b n c) (IL : CL G h0 t b n c k) (IO : CO G h0 t b n c k) : CO G h0 t b n c (k + 1) := by
  intro d h p op acc Q r x D hd hop hp hPp H hm hTD kk
  obtain ⟨d, rfl, he⟩ := dpos (k := 9 * (6 - op) + 3) (by omega)
  obtain ⟨hn, hc0, h255, hbc⟩ := id hb
  refine AM.of [some (.ref (gB G + 16)), some (.int (nI (op))), none, none, none] pnX3 (Nat.le_of_ble_eq_true rfl) (by simp [lsub, lvI, Value.category]) ?_
  have hcp := h255 p
  have hT6 := hTD.1
  rcases ps_op H with ⟨hdg, rfl⟩ | ⟨j, hj, rfl⟩ | ⟨ho6, hcq, H⟩ | ⟨ho6, hcs, ⟨f, hr1, rfl⟩ | ⟨q, e, hr1, rfl⟩⟩ | ⟨hdg, hno, hbr, rfl⟩
  · refine a_aloadn_0 (pc := 0) dX3_readOperand_0 ?_
    refine cv_X3_38 (pc := 1) rfl dX3_readOperand_1 hm.ob (Nat.le_of_ble_eq_true rfl) ?_
    refine r_next (by omega) hz hm hb (by omega) ?_
    refine a_istoren_2 (pc := 4) dX3_readOperand_4 (by decide) (by first | rfl | trivial) ?_
    refine a_iloadn_2 (pc := 5) dX3_readOperand_5 ?_
    refine cs_X3_61 (pc := 6) rfl dX3_readOperand_6 (Nat.le_of_ble_eq_true rfl) ?_
    refine r_isDigit (by omega) hz hb ?_
    refine b_if_eq (pc := 9) (tgt := 17) dX3_readOperand_9 (by decide) (fun c_9 => by rw [hdg] at c_9; cases c_9) (fun c_9 => ?_)
    refine a_aloadn_0 (pc := 12) dX3_readOperand_12 ?_
    refine cv_X3_65 (pc := 13) rfl dX3_readOperand_13 hm.ob (Nat.le_of_ble_eq_true rfl) ?_
    refine r_readNumber (by omega) hz hm hb (by omega) hdg hPp (fun h2 hm2 => ?_)
    have hnm := nums_le c n hc0 4 p 0 hp
    have hn1 : p < (nums c 4 p 0).1 := nums_1 (k := 3) (v := 0) hdg hc0 hp
    exact a_iret (pc := 16) dX3_readOperand_16 rfl (zf hz) (kk _ _ ⟨_, _, tP x, hm2, TD_num hTD, ⟨Nat.le_succ _, by show tP x + 1 + p ≤ _; omega⟩, fun i hi => up_ne (by omega), ⟨rfl, rfl, rfl⟩, Nat.lt_succ_self _, up_eq, rfl⟩)
  · obtain ⟨hj6, hj1, hj2⟩ := nmO_ch hj
    have hdg : dgO (c p) = false := dgO_f.mpr (by omega)
    refine a_aloadn_0 (pc := 0) dX3_readOperand_0 ?_
    refine cv_X3_38 (pc := 1) rfl dX3_readOperand_1 hm.ob (Nat.le_of_ble_eq_true rfl) ?_
    refine r_next (by omega) hz hm hb (by omega) ?_
    refine a_istoren_2 (pc := 4) dX3_readOperand_4 (by decide) (by first | rfl | trivial) ?_
    refine a_iloadn_2 (pc := 5) dX3_readOperand_5 ?_
    refine cs_X3_61 (pc := 6) rfl dX3_readOperand_6 (Nat.le_of_ble_eq_true rfl) ?_
    refine r_isDigit (by omega) hz hb ?_
    refine b_if_eq (pc := 9) (tgt := 17) dX3_readOperand_9 (by decide) (fun c_9 => ?_) (fun c_9 => by rw [hdg] at c_9; cases c_9)
    refine a_iloadn_2 (pc := 17) dX3_readOperand_17 ?_
    refine cs_X3_68 (pc := 18) rfl dX3_readOperand_18 (Nat.le_of_ble_eq_true rfl) ?_
    refine r_nameOf (by omega) hz hb ?_
    rw [hj]
    refine a_topi (nI j) rfl ?_
    refine a_istoren_3 (pc := 21) dX3_readOperand_21 (by decide) (by first | rfl | trivial) ?_
    refine a_iloadn_3 (pc := 22) dX3_readOperand_22 ?_
    refine n_if_lt (tgt := 38) dX3_readOperand_23 (by decide) (by omega) ?_
    refine a_aloadn_0 (pc := 26) dX3_readOperand_26 ?_
    refine a_dup (pc := 27) dX3_readOperand_27 rfl ?_
    refine rg_26 hm rfl dX3_readOperand_28 ?_
    refine a_iconst (pc := 31) (v := nI 1) dX3_readOperand_31 (by decide) ?_
    refine n_iadd dX3_readOperand_32 ?_
    refine rp_26 (v := p + 1) hm rfl dX3_readOperand_33 (fun h21 hm21 => ?_)
    refine a_iloadn_3 (pc := 36) dX3_readOperand_36 ?_
    exact a_iret (pc := 37) dX3_readOperand_37 rfl (zf hz) (kk _ _ ⟨x, D, j, hm21, hTD, ⟨Nat.le_refl _, by omega⟩, fun _ _ => rfl, ⟨rfl, rfl, rfl⟩, by omega, hTD.2.1 j (by omega), rfl⟩)
  · have hpn := ch_lt hc0 (show 0 < c p by omega)
    have hdg : dgO (c p) = false := dgO_f.mpr (by omega)
    have hno : nmO (c p) = none := nmO_no (by omega)
    obtain ⟨r0, hr0, hrr⟩ : ∃ r0, ps c k 0 (op + 1) (p + 1) acc = some r0 ∧ r = inC c r0 := by
      rcases H with ⟨f, hr1, rfl⟩ | ⟨q, e, hr1, ⟨h41, rfl⟩ | ⟨h41, rfl⟩⟩
      · exact ⟨_, hr1, rfl⟩
      · exact ⟨_, hr1, by unfold inC; simp [h41]⟩
      · exact ⟨_, hr1, by unfold inC; simp [h41]⟩
    have hcv : ∀ h1 v, CP G h0 t b n (p + 1) x D (inC c r0) h1 v → CP G h0 t b n p x D r h1 v := by
      intro h1 v H9
      rw [hrr]
      match hq : inC c r0, H9 with
      | .inl f, H9 => exact H9
      | .inr (q, e), H9 =>
        obtain ⟨x1, D1, j, g1, g2, ⟨g3, g4⟩, g5⟩ := H9
        exact ⟨x1, D1, j, g1, g2, ⟨g3, by omega⟩, g5⟩
    refine a_aloadn_0 (pc := 0) dX3_readOperand_0 ?_
    refine cv_X3_38 (pc := 1) rfl dX3_readOperand_1 hm.ob (Nat.le_of_ble_eq_true rfl) ?_
    refine r_next (by omega) hz hm hb (by omega) ?_
    refine a_istoren_2 (pc := 4) dX3_readOperand_4 (by decide) (by first | rfl | trivial) ?_
    refine a_iloadn_2 (pc := 5) dX3_readOperand_5 ?_
    refine cs_X3_61 (pc := 6) rfl dX3_readOperand_6 (Nat.le_of_ble_eq_true rfl) ?_
    refine r_isDigit (by omega) hz hb ?_
    refine b_if_eq (pc := 9) (tgt := 17) dX3_readOperand_9 (by decide) (fun c_9 => ?_) (fun c_9 => by rw [hdg] at c_9; cases c_9)
    refine a_iloadn_2 (pc := 17) dX3_readOperand_17 ?_
    refine cs_X3_68 (pc := 18) rfl dX3_readOperand_18 (Nat.le_of_ble_eq_true rfl) ?_
    refine r_nameOf (by omega) hz hb ?_
    rw [hno]
    refine a_istoren_3 (pc := 21) dX3_readOperand_21 (by decide) (by first | rfl | trivial) ?_
    refine a_iloadn_3 (pc := 22) dX3_readOperand_22 ?_
    refine a_if_lt (pc := 23) (tgt := 38) dX3_readOperand_23 (by decide) (fun c_23 => ?_) (fun c_23 => absurd (show oI none < 0 by decide) c_23)
    refine a_iloadn_2 (pc := 38) dX3_readOperand_38 ?_
    refine a_bipush (pc := 39) (v := nI 40) dX3_readOperand_39 (by decide) ?_
    refine c_icmp_eq (tgt := 56) hb (by decide) (by decide) dX3_readOperand_41 (by decide) (fun c_41 => ?_) (fun c_41 => by omega)
    refine a_iloadn_1 (pc := 56) dX3_readOperand_56 ?_
    refine a_bipush (pc := 57) (v := nI 6) dX3_readOperand_57 (by decide) ?_
    refine n_icmp_lt (tgt := 72) dX3_readOperand_59 (by decide) (by omega) (by decide) (fun c_59 => ?_) (fun c_59 => by omega)
    refine a_aloadn_0 (pc := 72) dX3_readOperand_72 ?_
    refine a_dup (pc := 73) dX3_readOperand_73 rfl ?_
    refine rg_26 hm rfl dX3_readOperand_74 ?_
    refine a_iconst (pc := 77) (v := nI 1) dX3_readOperand_77 (by decide) ?_
    refine n_iadd dX3_readOperand_78 ?_
    refine rp_26 (v := p + 1) hm rfl dX3_readOperand_79 (fun h21 hm21 => ?_)
    refine a_iloadn_2 (pc := 82) dX3_readOperand_82 ?_
    refine a_bipush (pc := 83) (v := nI 40) dX3_readOperand_83 (by decide) ?_
    refine c_icmp_ne (tgt := 96) hb (by decide) (by decide) dX3_readOperand_85 (by decide) (fun c_85 => by omega) (fun c_85 => ?_)
    refine a_aloadn_0 (pc := 88) dX3_readOperand_88 ?_
    refine a_iloadn_1 (pc := 89) dX3_readOperand_89 ?_
    refine a_iconst (pc := 90) (v := nI 1) dX3_readOperand_90 (by decide) ?_
    refine n_iadd dX3_readOperand_91 ?_
    refine cv_X3_71 (pc := 92) rfl dX3_readOperand_92 hm21.ob (Nat.le_of_ble_eq_true rfl) ?_
    refine ci_s hz hb IL d _ (p + 1) (op + 1) acc _ r0 x D (by omega) (by omega) (by omega) (by omega) hr0 hm21 hTD (fun h2 v2 H9 => ?_)
    exact a_iret (pc := 95) dX3_readOperand_95 rfl (zf hz) (kk _ _ (hcv _ _ H9))
  · have hpn := ch_lt hc0 (show 0 < c p by omega)
    have hdg : dgO (c p) = false := dgO_f.mpr (by omega)
    have hno : nmO (c p) = none := nmO_no (by omega)
    rcases hcs with hcq | hcq
    · refine a_aloadn_0 (pc := 0) dX3_readOperand_0 ?_
      refine cv_X3_38 (pc := 1) rfl dX3_readOperand_1 hm.ob (Nat.le_of_ble_eq_true rfl) ?_
      refine r_next (by omega) hz hm hb (by omega) ?_
      refine a_istoren_2 (pc := 4) dX3_readOperand_4 (by decide) (by first | rfl | trivial) ?_
      refine a_iloadn_2 (pc := 5) dX3_readOperand_5 ?_
      refine cs_X3_61 (pc := 6) rfl dX3_readOperand_6 (Nat.le_of_ble_eq_true rfl) ?_
      refine r_isDigit (by omega) hz hb ?_
      refine b_if_eq (pc := 9) (tgt := 17) dX3_readOperand_9 (by decide) (fun c_9 => ?_) (fun c_9 => by rw [hdg] at c_9; cases c_9)
      refine a_iloadn_2 (pc := 17) dX3_readOperand_17 ?_
      refine cs_X3_68 (pc := 18) rfl dX3_readOperand_18 (Nat.le_of_ble_eq_true rfl) ?_
      refine r_nameOf (by omega) hz hb ?_
      rw [hno]
      refine a_istoren_3 (pc := 21) dX3_readOperand_21 (by decide) (by first | rfl | trivial) ?_
      refine a_iloadn_3 (pc := 22) dX3_readOperand_22 ?_
      refine a_if_lt (pc := 23) (tgt := 38) dX3_readOperand_23 (by decide) (fun c_23 => ?_) (fun c_23 => absurd (show oI none < 0 by decide) c_23)
      refine a_iloadn_2 (pc := 38) dX3_readOperand_38 ?_
      refine a_bipush (pc := 39) (v := nI 40) dX3_readOperand_39 (by decide) ?_
      refine c_icmp_eq (tgt := 56) hb (by decide) (by decide) dX3_readOperand_41 (by decide) (fun c_41 => by omega) (fun c_41 => ?_)
      refine a_iloadn_2 (pc := 44) dX3_readOperand_44 ?_
      refine a_bipush (pc := 45) (v := nI 33) dX3_readOperand_45 (by decide) ?_
      refine c_icmp_eq (tgt := 56) hb (by decide) (by decide) dX3_readOperand_47 (by decide) (fun c_47 => ?_) (fun c_47 => by omega)
      refine a_iloadn_1 (pc := 56) dX3_readOperand_56 ?_
      refine a_bipush (pc := 57) (v := nI 6) dX3_readOperand_57 (by decide) ?_
      refine n_icmp_lt (tgt := 72) dX3_readOperand_59 (by decide) (by omega) (by decide) (fun c_59 => ?_) (fun c_59 => by omega)
      refine a_aloadn_0 (pc := 72) dX3_readOperand_72 ?_
      refine a_dup (pc := 73) dX3_readOperand_73 rfl ?_
      refine rg_26 hm rfl dX3_readOperand_74 ?_
      refine a_iconst (pc := 77) (v := nI 1) dX3_readOperand_77 (by decide) ?_
      refine n_iadd dX3_readOperand_78 ?_
      refine rp_26 (v := p + 1) hm rfl dX3_readOperand_79 (fun h21 hm21 => ?_)
      refine a_iloadn_2 (pc := 82) dX3_readOperand_82 ?_
      refine a_bipush (pc := 83) (v := nI 40) dX3_readOperand_83 (by decide) ?_
      refine c_icmp_ne (tgt := 96) hb (by decide) (by decide) dX3_readOperand_85 (by decide) (fun c_85 => ?_) (fun c_85 => by omega)
      refine a_aloadn_0 (pc := 96) dX3_readOperand_96 ?_
      refine a_iloadn_1 (pc := 97) dX3_readOperand_97 ?_
      refine a_iconst (pc := 98) (v := nI 1) dX3_readOperand_98 (by decide) ?_
      refine n_iadd dX3_readOperand_99 ?_
      refine cv_X3_50 (pc := 100) rfl dX3_readOperand_100 hm21.ob (Nat.le_of_ble_eq_true rfl) ?_
      refine IO d _ (p + 1) (op + 1) acc _ _ x D (by omega) (by omega) (by omega) (by omega) hr1 hm21 hTD (fun h2 v2 H9 => ?_)
      have hf1 := (ps_pb c n hc0 _ _ _ _ _ _ hr1 (by omega) (by omega)).1
      obtain ⟨x2, p2, j2, hm2, hP2, hN2, hp2, hj2, rfl⟩ := H9
      refine a_istore_4 (pc := 103) dX3_readOperand_103 (by decide) (by first | rfl | trivial) ?_
      refine a_aloadn_0 (pc := 105) dX3_readOperand_105 ?_
      refine rg_18 hm2 rfl dX3_readOperand_106 ?_
      refine a_iloadn_2 (pc := 109) dX3_readOperand_109 ?_
      refine a_bipush (pc := 110) (v := nI 45) dX3_readOperand_110 (by decide) ?_
      refine c_icmp_ne (tgt := 120) hb (by decide) (by decide) dX3_readOperand_112 (by decide) (fun c_112 => ?_) (fun c_112 => by omega)
      refine a_iloadn_2 (pc := 120) dX3_readOperand_120 ?_
      refine a_topi (nI 33) (by rw [nxv_lt hpn, hcq]) ?_
      refine a_iload_4 (pc := 121) dX3_readOperand_121 ?_
      refine a_iload_4 (pc := 123) dX3_readOperand_123 ?_
      refine cv_X3_57 (pc := 125) rfl dX3_readOperand_125 hm2.tx.1 (Nat.le_of_ble_eq_true rfl) ?_
      refine r_addPart (by omega) hz hm2 (fun hP8 h8 hm8 => ?_) (fun hP8 => ?_) (by omega)
      · exact a_iret (pc := 128) dX3_readOperand_128 rfl (zf hz) (kk _ _ ⟨_, p2, tP x2, hm8, hP8, hN2, hp2, by omega, rfl⟩)
      · exact a_iret (pc := 128) dX3_readOperand_128 rfl (zf hz) (kk _ _ ⟨_, p2, 125, hm2, hP2, hN2, hp2, by omega, rfl⟩)
    · refine a_aloadn_0 (pc := 0) dX3_readOperand_0 ?_
      refine cv_X3_38 (pc := 1) rfl dX3_readOperand_1 hm.ob (Nat.le_of_ble_eq_true rfl) ?_
      refine r_next (by omega) hz hm hb (by omega) ?_
      refine a_istoren_2 (pc := 4) dX3_readOperand_4 (by decide) (by first | rfl | trivial) ?_
      refine a_iloadn_2 (pc := 5) dX3_readOperand_5 ?_
      refine cs_X3_61 (pc := 6) rfl dX3_readOperand_6 (Nat.le_of_ble_eq_true rfl) ?_
      refine r_isDigit (by omega) hz hb ?_
      refine b_if_eq (pc := 9) (tgt := 17) dX3_readOperand_9 (by decide) (fun c_9 => ?_) (fun c_9 => by rw [hdg] at c_9; cases c_9)
      refine a_iloadn_2 (pc := 17) dX3_readOperand_17 ?_
      refine cs_X3_68 (pc := 18) rfl dX3_readOperand_18 (Nat.le_of_ble_eq_true rfl) ?_
      refine r_nameOf (by omega) hz hb ?_
      rw [hno]
      refine a_istoren_3 (pc := 21) dX3_readOperand_21 (by decide) (by first | rfl | trivial) ?_
      refine a_iloadn_3 (pc := 22) dX3_readOperand_22 ?_
      refine a_if_lt (pc := 23) (tgt := 38) dX3_readOperand_23 (by decide) (fun c_23 => ?_) (fun c_23 => absurd (show oI none < 0 by decide) c_23)
      refine a_iloadn_2 (pc := 38) dX3_readOperand_38 ?_
      refine a_bipush (pc := 39) (v := nI 40) dX3_readOperand_39 (by decide) ?_
      refine c_icmp_eq (tgt := 56) hb (by decide) (by decide) dX3_readOperand_41 (by decide) (fun c_41 => by omega) (fun c_41 => ?_)
      refine a_iloadn_2 (pc := 44) dX3_readOperand_44 ?_
      refine a_bipush (pc := 45) (v := nI 33) dX3_readOperand_45 (by decide) ?_
      refine c_icmp_eq (tgt := 56) hb (by decide) (by decide) dX3_readOperand_47 (by decide) (fun c_47 => by omega) (fun c_47 => ?_)
      refine a_iloadn_2 (pc := 50) dX3_readOperand_50 ?_
      refine a_bipush (pc := 51) (v := nI 45) dX3_readOperand_51 (by decide) ?_
      refine c_icmp_ne (tgt := 62) hb (by decide) (by decide) dX3_readOperand_53 (by decide) (fun c_53 => by omega) (fun c_53 => ?_)
      refine a_iloadn_1 (pc := 56) dX3_readOperand_56 ?_
      refine a_bipush (pc := 57) (v := nI 6) dX3_readOperand_57 (by decide) ?_
      refine n_icmp_lt (tgt := 72) dX3_readOperand_59 (by decide) (by omega) (by decide) (fun c_59 => ?_) (fun c_59 => by omega)
      refine a_aloadn_0 (pc := 72) dX3_readOperand_72 ?_
      refine a_dup (pc := 73) dX3_readOperand_73 rfl ?_
      refine rg_26 hm rfl dX3_readOperand_74 ?_
      refine a_iconst (pc := 77) (v := nI 1) dX3_readOperand_77 (by decide) ?_
      refine n_iadd dX3_readOperand_78 ?_
      refine rp_26 (v := p + 1) hm rfl dX3_readOperand_79 (fun h21 hm21 => ?_)
      refine a_iloadn_2 (pc := 82) dX3_readOperand_82 ?_
      refine a_bipush (pc := 83) (v := nI 40) dX3_readOperand_83 (by decide) ?_
      refine c_icmp_ne (tgt := 96) hb (by decide) (by decide) dX3_readOperand_85 (by decide) (fun c_85 => ?_) (fun c_85 => by omega)
      refine a_aloadn_0 (pc := 96) dX3_readOperand_96 ?_
      refine a_iloadn_1 (pc := 97) dX3_readOperand_97 ?_
      refine a_iconst (pc := 98) (v := nI 1) dX3_readOperand_98 (by decide) ?_
      refine n_iadd dX3_readOperand_99 ?_
      refine cv_X3_50 (pc := 100) rfl dX3_readOperand_100 hm21.ob (Nat.le_of_ble_eq_true rfl) ?_
      refine IO d _ (p + 1) (op + 1) acc _ _ x D (by omega) (by omega) (by omega) (by omega) hr1 hm21 hTD (fun h2 v2 H9 => ?_)
      have hf1 := (ps_pb c n hc0 _ _ _ _ _ _ hr1 (by omega) (by omega)).1
      obtain ⟨x2, p2, j2, hm2, hP2, hN2, hp2, hj2, rfl⟩ := H9
      refine a_istore_4 (pc := 103) dX3_readOperand_103 (by decide) (by first | rfl | trivial) ?_
      refine a_aloadn_0 (pc := 105) dX3_readOperand_105 ?_
      refine rg_18 hm2 rfl dX3_readOperand_106 ?_
      refine a_iloadn_2 (pc := 109) dX3_readOperand_109 ?_
      refine a_bipush (pc := 110) (v := nI 45) dX3_readOperand_110 (by decide) ?_
      refine c_icmp_ne (tgt := 120) hb (by decide) (by decide) dX3_readOperand_112 (by decide) (fun c_112 => by omega) (fun c_112 => ?_)
      refine a_bipush (pc := 115) (v := nI 126) dX3_readOperand_115 (by decide) ?_
      refine a_goto (pc := 117) (tgt := 121) dX3_readOperand_117 (by decide) ?_
      refine a_iload_4 (pc := 121) dX3_readOperand_121 ?_
      refine a_iload_4 (pc := 123) dX3_readOperand_123 ?_
      refine cv_X3_57 (pc := 125) rfl dX3_readOperand_125 hm2.tx.1 (Nat.le_of_ble_eq_true rfl) ?_
      refine r_addPart (by omega) hz hm2 (fun hP8 h8 hm8 => ?_) (fun hP8 => ?_) (by omega)
      · exact a_iret (pc := 128) dX3_readOperand_128 rfl (zf hz) (kk _ _ ⟨_, p2, tP x2, hm8, hP8, hN2, hp2, by omega, rfl⟩)
      · exact a_iret (pc := 128) dX3_readOperand_128 rfl (zf hz) (kk _ _ ⟨_, p2, 125, hm2, hP2, hN2, hp2, by omega, rfl⟩)
  · have hpn := ch_lt hc0 (show 0 < c p by omega)
    have hdg : dgO (c p) = false := dgO_f.mpr (by omega)
    have hno : nmO (c p) = none := nmO_no (by omega)
    rcases hcs with hcq | hcq
    · refine a_aloadn_0 (pc := 0) dX3_readOperand_0 ?_
      refine cv_X3_38 (pc := 1) rfl dX3_readOperand_1 hm.ob (Nat.le_of_ble_eq_true rfl) ?_
      refine r_next (by omega) hz hm hb (by omega) ?_
      refine a_istoren_2 (pc := 4) dX3_readOperand_4 (by decide) (by first | rfl | trivial) ?_
      refine a_iloadn_2 (pc := 5) dX3_readOperand_5 ?_
      refine cs_X3_61 (pc := 6) rfl dX3_readOperand_6 (Nat.le_of_ble_eq_true rfl) ?_
      refine r_isDigit (by omega) hz hb ?_
      refine b_if_eq (pc := 9) (tgt := 17) dX3_readOperand_9 (by decide) (fun c_9 => ?_) (fun c_9 => by rw [hdg] at c_9; cases c_9)
      refine a_iloadn_2 (pc := 17) dX3_readOperand_17 ?_
      refine cs_X3_68 (pc := 18) rfl dX3_readOperand_18 (Nat.le_of_ble_eq_true rfl) ?_
      refine r_nameOf (by omega) hz hb ?_
      rw [hno]
      refine a_istoren_3 (pc := 21) dX3_readOperand_21 (by decide) (by first | rfl | trivial) ?_
      refine a_iloadn_3 (pc := 22) dX3_readOperand_22 ?_
      refine a_if_lt (pc := 23) (tgt := 38) dX3_readOperand_23 (by decide) (fun c_23 => ?_) (fun c_23 => absurd (show oI none < 0 by decide) c_23)
      refine a_iloadn_2 (pc := 38) dX3_readOperand_38 ?_
      refine a_bipush (pc := 39) (v := nI 40) dX3_readOperand_39 (by decide) ?_
      refine c_icmp_eq (tgt := 56) hb (by decide) (by decide) dX3_readOperand_41 (by decide) (fun c_41 => by omega) (fun c_41 => ?_)
      refine a_iloadn_2 (pc := 44) dX3_readOperand_44 ?_
      refine a_bipush (pc := 45) (v := nI 33) dX3_readOperand_45 (by decide) ?_
      refine c_icmp_eq (tgt := 56) hb (by decide) (by decide) dX3_readOperand_47 (by decide) (fun c_47 => ?_) (fun c_47 => by omega)
      refine a_iloadn_1 (pc := 56) dX3_readOperand_56 ?_
      refine a_bipush (pc := 57) (v := nI 6) dX3_readOperand_57 (by decide) ?_
      refine n_icmp_lt (tgt := 72) dX3_readOperand_59 (by decide) (by omega) (by decide) (fun c_59 => ?_) (fun c_59 => by omega)
      refine a_aloadn_0 (pc := 72) dX3_readOperand_72 ?_
      refine a_dup (pc := 73) dX3_readOperand_73 rfl ?_
      refine rg_26 hm rfl dX3_readOperand_74 ?_
      refine a_iconst (pc := 77) (v := nI 1) dX3_readOperand_77 (by decide) ?_
      refine n_iadd dX3_readOperand_78 ?_
      refine rp_26 (v := p + 1) hm rfl dX3_readOperand_79 (fun h21 hm21 => ?_)
      refine a_iloadn_2 (pc := 82) dX3_readOperand_82 ?_
      refine a_bipush (pc := 83) (v := nI 40) dX3_readOperand_83 (by decide) ?_
      refine c_icmp_ne (tgt := 96) hb (by decide) (by decide) dX3_readOperand_85 (by decide) (fun c_85 => ?_) (fun c_85 => by omega)
      refine a_aloadn_0 (pc := 96) dX3_readOperand_96 ?_
      refine a_iloadn_1 (pc := 97) dX3_readOperand_97 ?_
      refine a_iconst (pc := 98) (v := nI 1) dX3_readOperand_98 (by decide) ?_
      refine n_iadd dX3_readOperand_99 ?_
      refine cv_X3_50 (pc := 100) rfl dX3_readOperand_100 hm21.ob (Nat.le_of_ble_eq_true rfl) ?_
      refine IO d _ (p + 1) (op + 1) acc _ _ x D (by omega) (by omega) (by omega) (by omega) hr1 hm21 hTD (fun h2 v2 H9 => ?_)
      have hb2 := ps_pb c n hc0 _ _ _ _ _ _ hr1 (by omega) (by omega)
      obtain ⟨hq2, hl2, -⟩ := hb2
      obtain ⟨x2, D2, j2, hm2, hTD2, ⟨ha2, hA2⟩, hD2, hX2, hj2, hE2, rfl⟩ := H9
      refine a_istore_4 (pc := 103) dX3_readOperand_103 (by decide) (by first | rfl | trivial) ?_
      refine a_aloadn_0 (pc := 105) dX3_readOperand_105 ?_
      refine rg_18 hm2 rfl dX3_readOperand_106 ?_
      refine a_iloadn_2 (pc := 109) dX3_readOperand_109 ?_
      refine a_bipush (pc := 110) (v := nI 45) dX3_readOperand_110 (by decide) ?_
      refine c_icmp_ne (tgt := 120) hb (by decide) (by decide) dX3_readOperand_112 (by decide) (fun c_112 => ?_) (fun c_112 => by omega)
      refine a_iloadn_2 (pc := 120) dX3_readOperand_120 ?_
      refine a_topi (nI 33) (by rw [nxv_lt hpn, hcq]) ?_
      refine a_iload_4 (pc := 121) dX3_readOperand_121 ?_
      refine a_iload_4 (pc := 123) dX3_readOperand_123 ?_
      refine cv_X3_57 (pc := 125) rfl dX3_readOperand_125 hm2.tx.1 (Nat.le_of_ble_eq_true rfl) ?_
      refine r_addPart (by omega) hz hm2 (fun hP8 h8 hm8 => ?_) (fun hP8 => absurd (show tP x2 < 126 by omega) hP8) (by omega)
      exact a_iret (pc := 128) dX3_readOperand_128 rfl (zf hz) (kk _ _ ⟨_, _, tP x2, hm8, TD_add (s := 33) hTD2 (by decide) hj2 hj2, ⟨Nat.le_succ_of_le ha2, by show tP x2 + 1 + p ≤ _; omega⟩, fun i hi => (up_ne (by omega)).trans (hD2 i hi), hX2, Nat.lt_succ_self _, up_eq.trans (by rw [hcq, hE2]; rfl), rfl⟩)
    · refine a_aloadn_0 (pc := 0) dX3_readOperand_0 ?_
      refine cv_X3_38 (pc := 1) rfl dX3_readOperand_1 hm.ob (Nat.le_of_ble_eq_true rfl) ?_
      refine r_next (by omega) hz hm hb (by omega) ?_
      refine a_istoren_2 (pc := 4) dX3_readOperand_4 (by decide) (by first | rfl | trivial) ?_
      refine a_iloadn_2 (pc := 5) dX3_readOperand_5 ?_
      refine cs_X3_61 (pc := 6) rfl dX3_readOperand_6 (Nat.le_of_ble_eq_true rfl) ?_
      refine r_isDigit (by omega) hz hb ?_
      refine b_if_eq (pc := 9) (tgt := 17) dX3_readOperand_9 (by decide) (fun c_9 => ?_) (fun c_9 => by rw [hdg] at c_9; cases c_9)
      refine a_iloadn_2 (pc := 17) dX3_readOperand_17 ?_
      refine cs_X3_68 (pc := 18) rfl dX3_readOperand_18 (Nat.le_of_ble_eq_true rfl) ?_
      refine r_nameOf (by omega) hz hb ?_
      rw [hno]
      refine a_istoren_3 (pc := 21) dX3_readOperand_21 (by decide) (by first | rfl | trivial) ?_
      refine a_iloadn_3 (pc := 22) dX3_readOperand_22 ?_
      refine a_if_lt (pc := 23) (tgt := 38) dX3_readOperand_23 (by decide) (fun c_23 => ?_) (fun c_23 => absurd (show oI none < 0 by decide) c_23)
      refine a_iloadn_2 (pc := 38) dX3_readOperand_38 ?_
      refine a_bipush (pc := 39) (v := nI 40) dX3_readOperand_39 (by decide) ?_
      refine c_icmp_eq (tgt := 56) hb (by decide) (by decide) dX3_readOperand_41 (by decide) (fun c_41 => by omega) (fun c_41 => ?_)
      refine a_iloadn_2 (pc := 44) dX3_readOperand_44 ?_
      refine a_bipush (pc := 45) (v := nI 33) dX3_readOperand_45 (by decide) ?_
      refine c_icmp_eq (tgt := 56) hb (by decide) (by decide) dX3_readOperand_47 (by decide) (fun c_47 => by omega) (fun c_47 => ?_)
      refine a_iloadn_2 (pc := 50) dX3_readOperand_50 ?_
      refine a_bipush (pc := 51) (v := nI 45) dX3_readOperand_51 (by decide) ?_
      refine c_icmp_ne (tgt := 62) hb (by decide) (by decide) dX3_readOperand_53 (by decide) (fun c_53 => by omega) (fun c_53 => ?_)
      refine a_iloadn_1 (pc := 56) dX3_readOperand_56 ?_
      refine a_bipush (pc := 57) (v := nI 6) dX3_readOperand_57 (by decide) ?_
      refine n_icmp_lt (tgt := 72) dX3_readOperand_59 (by decide) (by omega) (by decide) (fun c_59 => ?_) (fun c_59 => by omega)
      refine a_aloadn_0 (pc := 72) dX3_readOperand_72 ?_
      refine a_dup (pc := 73) dX3_readOperand_73 rfl ?_
      refine rg_26 hm rfl dX3_readOperand_74 ?_
      refine a_iconst (pc := 77) (v := nI 1) dX3_readOperand_77 (by decide) ?_
      refine n_iadd dX3_readOperand_78 ?_
      refine rp_26 (v := p + 1) hm rfl dX3_readOperand_79 (fun h21 hm21 => ?_)
      refine a_iloadn_2 (pc := 82) dX3_readOperand_82 ?_
      refine a_bipush (pc := 83) (v := nI 40) dX3_readOperand_83 (by decide) ?_
      refine c_icmp_ne (tgt := 96) hb (by decide) (by decide) dX3_readOperand_85 (by decide) (fun c_85 => ?_) (fun c_85 => by omega)
      refine a_aloadn_0 (pc := 96) dX3_readOperand_96 ?_
      refine a_iloadn_1 (pc := 97) dX3_readOperand_97 ?_
      refine a_iconst (pc := 98) (v := nI 1) dX3_readOperand_98 (by decide) ?_
      refine n_iadd dX3_readOperand_99 ?_
      refine cv_X3_50 (pc := 100) rfl dX3_readOperand_100 hm21.ob (Nat.le_of_ble_eq_true rfl) ?_
      refine IO d _ (p + 1) (op + 1) acc _ _ x D (by omega) (by omega) (by omega) (by omega) hr1 hm21 hTD (fun h2 v2 H9 => ?_)
      have hb2 := ps_pb c n hc0 _ _ _ _ _ _ hr1 (by omega) (by omega)
      obtain ⟨hq2, hl2, -⟩ := hb2
      obtain ⟨x2, D2, j2, hm2, hTD2, ⟨ha2, hA2⟩, hD2, hX2, hj2, hE2, rfl⟩ := H9
      refine a_istore_4 (pc := 103) dX3_readOperand_103 (by decide) (by first | rfl | trivial) ?_
      refine a_aloadn_0 (pc := 105) dX3_readOperand_105 ?_
      refine rg_18 hm2 rfl dX3_readOperand_106 ?_
      refine a_iloadn_2 (pc := 109) dX3_readOperand_109 ?_
      refine a_bipush (pc := 110) (v := nI 45) dX3_readOperand_110 (by decide) ?_
      refine c_icmp_ne (tgt := 120) hb (by decide) (by decide) dX3_readOperand_112 (by decide) (fun c_112 => by omega) (fun c_112 => ?_)
      refine a_bipush (pc := 115) (v := nI 126) dX3_readOperand_115 (by decide) ?_
      refine a_goto (pc := 117) (tgt := 121) dX3_readOperand_117 (by decide) ?_
      refine a_iload_4 (pc := 121) dX3_readOperand_121 ?_
      refine a_iload_4 (pc := 123) dX3_readOperand_123 ?_
      refine cv_X3_57 (pc := 125) rfl dX3_readOperand_125 hm2.tx.1 (Nat.le_of_ble_eq_true rfl) ?_
      refine r_addPart (by omega) hz hm2 (fun hP8 h8 hm8 => ?_) (fun hP8 => absurd (show tP x2 < 126 by omega) hP8) (by omega)
      exact a_iret (pc := 128) dX3_readOperand_128 rfl (zf hz) (kk _ _ ⟨_, _, tP x2, hm8, TD_add (s := 126) hTD2 (by decide) hj2 hj2, ⟨Nat.le_succ_of_le ha2, by show tP x2 + 1 + p ≤ _; omega⟩, fun i hi => (up_ne (by omega)).trans (hD2 i hi), hX2, Nat.lt_succ_self _, up_eq.trans (by rw [hcq, hE2]; rfl), rfl⟩)
  · have hdg2 := dgO_f.mp hdg
    rcases (show (¬ c p = 33 ∧ ¬ c p = 45 ∧ ¬ c p = 40) ∨ (op = 6 ∧ c p = 33) ∨ (op = 6 ∧ c p = 45) ∨ (op = 6 ∧ c p = 40) by omega) with ⟨g33, g45, g40⟩ | ⟨ho6, hcq⟩ | ⟨ho6, hcq⟩ | ⟨ho6, hcq⟩
    · refine a_aloadn_0 (pc := 0) dX3_readOperand_0 ?_
      refine cv_X3_38 (pc := 1) rfl dX3_readOperand_1 hm.ob (Nat.le_of_ble_eq_true rfl) ?_
      refine r_next (by omega) hz hm hb (by omega) ?_
      refine a_istoren_2 (pc := 4) dX3_readOperand_4 (by decide) (by first | rfl | trivial) ?_
      refine a_iloadn_2 (pc := 5) dX3_readOperand_5 ?_
      refine cs_X3_61 (pc := 6) rfl dX3_readOperand_6 (Nat.le_of_ble_eq_true rfl) ?_
      refine r_isDigit (by omega) hz hb ?_
      refine b_if_eq (pc := 9) (tgt := 17) dX3_readOperand_9 (by decide) (fun c_9 => ?_) (fun c_9 => by rw [hdg] at c_9; cases c_9)
      refine a_iloadn_2 (pc := 17) dX3_readOperand_17 ?_
      refine cs_X3_68 (pc := 18) rfl dX3_readOperand_18 (Nat.le_of_ble_eq_true rfl) ?_
      refine r_nameOf (by omega) hz hb ?_
      rw [hno]
      refine a_istoren_3 (pc := 21) dX3_readOperand_21 (by decide) (by first | rfl | trivial) ?_
      refine a_iloadn_3 (pc := 22) dX3_readOperand_22 ?_
      refine a_if_lt (pc := 23) (tgt := 38) dX3_readOperand_23 (by decide) (fun c_23 => ?_) (fun c_23 => absurd (show oI none < 0 by decide) c_23)
      refine a_iloadn_2 (pc := 38) dX3_readOperand_38 ?_
      refine a_bipush (pc := 39) (v := nI 40) dX3_readOperand_39 (by decide) ?_
      refine c_icmp_eq (tgt := 56) hb (by decide) (by decide) dX3_readOperand_41 (by decide) (fun c_41 => by omega) (fun c_41 => ?_)
      refine a_iloadn_2 (pc := 44) dX3_readOperand_44 ?_
      refine a_bipush (pc := 45) (v := nI 33) dX3_readOperand_45 (by decide) ?_
      refine c_icmp_eq (tgt := 56) hb (by decide) (by decide) dX3_readOperand_47 (by decide) (fun c_47 => by omega) (fun c_47 => ?_)
      refine a_iloadn_2 (pc := 50) dX3_readOperand_50 ?_
      refine a_bipush (pc := 51) (v := nI 45) dX3_readOperand_51 (by decide) ?_
      refine c_icmp_ne (tgt := 62) hb (by decide) (by decide) dX3_readOperand_53 (by decide) (fun c_53 => ?_) (fun c_53 => by omega)
      refine a_aloadn_0 (pc := 62) dX3_readOperand_62 ?_
      refine a_aloadn_0 (pc := 63) dX3_readOperand_63 ?_
      refine rg_26 hm rfl dX3_readOperand_64 ?_
      refine rp_29 (v := nI (p)) hm rfl dX3_readOperand_67 (fun h21 hm21 => ?_)
      refine a_iconst (pc := 70) (v := nI 0) dX3_readOperand_70 (by decide) ?_
      exact a_iret (pc := 71) dX3_readOperand_71 rfl (zf hz) (kk _ _ ⟨x, p, 0, hm21, by omega, rfl, by omega, by omega, rfl⟩)
    · refine a_aloadn_0 (pc := 0) dX3_readOperand_0 ?_
      refine cv_X3_38 (pc := 1) rfl dX3_readOperand_1 hm.ob (Nat.le_of_ble_eq_true rfl) ?_
      refine r_next (by omega) hz hm hb (by omega) ?_
      refine a_istoren_2 (pc := 4) dX3_readOperand_4 (by decide) (by first | rfl | trivial) ?_
      refine a_iloadn_2 (pc := 5) dX3_readOperand_5 ?_
      refine cs_X3_61 (pc := 6) rfl dX3_readOperand_6 (Nat.le_of_ble_eq_true rfl) ?_
      refine r_isDigit (by omega) hz hb ?_
      refine b_if_eq (pc := 9) (tgt := 17) dX3_readOperand_9 (by decide) (fun c_9 => ?_) (fun c_9 => by rw [hdg] at c_9; cases c_9)
      refine a_iloadn_2 (pc := 17) dX3_readOperand_17 ?_
      refine cs_X3_68 (pc := 18) rfl dX3_readOperand_18 (Nat.le_of_ble_eq_true rfl) ?_
      refine r_nameOf (by omega) hz hb ?_
      rw [hno]
      refine a_istoren_3 (pc := 21) dX3_readOperand_21 (by decide) (by first | rfl | trivial) ?_
      refine a_iloadn_3 (pc := 22) dX3_readOperand_22 ?_
      refine a_if_lt (pc := 23) (tgt := 38) dX3_readOperand_23 (by decide) (fun c_23 => ?_) (fun c_23 => absurd (show oI none < 0 by decide) c_23)
      refine a_iloadn_2 (pc := 38) dX3_readOperand_38 ?_
      refine a_bipush (pc := 39) (v := nI 40) dX3_readOperand_39 (by decide) ?_
      refine c_icmp_eq (tgt := 56) hb (by decide) (by decide) dX3_readOperand_41 (by decide) (fun c_41 => by omega) (fun c_41 => ?_)
      refine a_iloadn_2 (pc := 44) dX3_readOperand_44 ?_
      refine a_bipush (pc := 45) (v := nI 33) dX3_readOperand_45 (by decide) ?_
      refine c_icmp_eq (tgt := 56) hb (by decide) (by decide) dX3_readOperand_47 (by decide) (fun c_47 => ?_) (fun c_47 => by omega)
      refine a_iloadn_1 (pc := 56) dX3_readOperand_56 ?_
      refine a_bipush (pc := 57) (v := nI 6) dX3_readOperand_57 (by decide) ?_
      refine n_icmp_lt (tgt := 72) dX3_readOperand_59 (by decide) (by omega) (by decide) (fun c_59 => by omega) (fun c_59 => ?_)
      refine a_aloadn_0 (pc := 62) dX3_readOperand_62 ?_
      refine a_aloadn_0 (pc := 63) dX3_readOperand_63 ?_
      refine rg_26 hm rfl dX3_readOperand_64 ?_
      refine rp_29 (v := nI (p)) hm rfl dX3_readOperand_67 (fun h21 hm21 => ?_)
      refine a_iconst (pc := 70) (v := nI 0) dX3_readOperand_70 (by decide) ?_
      exact a_iret (pc := 71) dX3_readOperand_71 rfl (zf hz) (kk _ _ ⟨x, p, 0, hm21, by omega, rfl, by omega, by omega, rfl⟩)
    · refine a_aloadn_0 (pc := 0) dX3_readOperand_0 ?_
      refine cv_X3_38 (pc := 1) rfl dX3_readOperand_1 hm.ob (Nat.le_of_ble_eq_true rfl) ?_
      refine r_next (by omega) hz hm hb (by omega) ?_
      refine a_istoren_2 (pc := 4) dX3_readOperand_4 (by decide) (by first | rfl | trivial) ?_
      refine a_iloadn_2 (pc := 5) dX3_readOperand_5 ?_
      refine cs_X3_61 (pc := 6) rfl dX3_readOperand_6 (Nat.le_of_ble_eq_true rfl) ?_
      refine r_isDigit (by omega) hz hb ?_
      refine b_if_eq (pc := 9) (tgt := 17) dX3_readOperand_9 (by decide) (fun c_9 => ?_) (fun c_9 => by rw [hdg] at c_9; cases c_9)
      refine a_iloadn_2 (pc := 17) dX3_readOperand_17 ?_
      refine cs_X3_68 (pc := 18) rfl dX3_readOperand_18 (Nat.le_of_ble_eq_true rfl) ?_
      refine r_nameOf (by omega) hz hb ?_
      rw [hno]
      refine a_istoren_3 (pc := 21) dX3_readOperand_21 (by decide) (by first | rfl | trivial) ?_
      refine a_iloadn_3 (pc := 22) dX3_readOperand_22 ?_
      refine a_if_lt (pc := 23) (tgt := 38) dX3_readOperand_23 (by decide) (fun c_23 => ?_) (fun c_23 => absurd (show oI none < 0 by decide) c_23)
      refine a_iloadn_2 (pc := 38) dX3_readOperand_38 ?_
      refine a_bipush (pc := 39) (v := nI 40) dX3_readOperand_39 (by decide) ?_
      refine c_icmp_eq (tgt := 56) hb (by decide) (by decide) dX3_readOperand_41 (by decide) (fun c_41 => by omega) (fun c_41 => ?_)
      refine a_iloadn_2 (pc := 44) dX3_readOperand_44 ?_
      refine a_bipush (pc := 45) (v := nI 33) dX3_readOperand_45 (by decide) ?_
      refine c_icmp_eq (tgt := 56) hb (by decide) (by decide) dX3_readOperand_47 (by decide) (fun c_47 => by omega) (fun c_47 => ?_)
      refine a_iloadn_2 (pc := 50) dX3_readOperand_50 ?_
      refine a_bipush (pc := 51) (v := nI 45) dX3_readOperand_51 (by decide) ?_
      refine c_icmp_ne (tgt := 62) hb (by decide) (by decide) dX3_readOperand_53 (by decide) (fun c_53 => by omega) (fun c_53 => ?_)
      refine a_iloadn_1 (pc := 56) dX3_readOperand_56 ?_
      refine a_bipush (pc := 57) (v := nI 6) dX3_readOperand_57 (by decide) ?_
      refine n_icmp_lt (tgt := 72) dX3_readOperand_59 (by decide) (by omega) (by decide) (fun c_59 => by omega) (fun c_59 => ?_)
      refine a_aloadn_0 (pc := 62) dX3_readOperand_62 ?_
      refine a_aloadn_0 (pc := 63) dX3_readOperand_63 ?_
      refine rg_26 hm rfl dX3_readOperand_64 ?_
      refine rp_29 (v := nI (p)) hm rfl dX3_readOperand_67 (fun h21 hm21 => ?_)
      refine a_iconst (pc := 70) (v := nI 0) dX3_readOperand_70 (by decide) ?_
      exact a_iret (pc := 71) dX3_readOperand_71 rfl (zf hz) (kk _ _ ⟨x, p, 0, hm21, by omega, rfl, by omega, by omega, rfl⟩)
    · refine a_aloadn_0 (pc := 0) dX3_readOperand_0 ?_
      refine cv_X3_38 (pc := 1) rfl dX3_readOperand_1 hm.ob (Nat.le_of_ble_eq_true rfl) ?_
      refine r_next (by omega) hz hm hb (by omega) ?_
      refine a_istoren_2 (pc := 4) dX3_readOperand_4 (by decide) (by first | rfl | trivial) ?_
      refine a_iloadn_2 (pc := 5) dX3_readOperand_5 ?_
      refine cs_X3_61 (pc := 6) rfl dX3_readOperand_6 (Nat.le_of_ble_eq_true rfl) ?_
      refine r_isDigit (by omega) hz hb ?_
      refine b_if_eq (pc := 9) (tgt := 17) dX3_readOperand_9 (by decide) (fun c_9 => ?_) (fun c_9 => by rw [hdg] at c_9; cases c_9)
      refine a_iloadn_2 (pc := 17) dX3_readOperand_17 ?_
      refine cs_X3_68 (pc := 18) rfl dX3_readOperand_18 (Nat.le_of_ble_eq_true rfl) ?_
      refine r_nameOf (by omega) hz hb ?_
      rw [hno]
      refine a_istoren_3 (pc := 21) dX3_readOperand_21 (by decide) (by first | rfl | trivial) ?_
      refine a_iloadn_3 (pc := 22) dX3_readOperand_22 ?_
      refine a_if_lt (pc := 23) (tgt := 38) dX3_readOperand_23 (by decide) (fun c_23 => ?_) (fun c_23 => absurd (show oI none < 0 by decide) c_23)
      refine a_iloadn_2 (pc := 38) dX3_readOperand_38 ?_
      refine a_bipush (pc := 39) (v := nI 40) dX3_readOperand_39 (by decide) ?_
      refine c_icmp_eq (tgt := 56) hb (by decide) (by decide) dX3_readOperand_41 (by decide) (fun c_41 => ?_) (fun c_41 => by omega)
      refine a_iloadn_1 (pc := 56) dX3_readOperand_56 ?_
      refine a_bipush (pc := 57) (v := nI 6) dX3_readOperand_57 (by decide) ?_
      refine n_icmp_lt (tgt := 72) dX3_readOperand_59 (by decide) (by omega) (by decide) (fun c_59 => by omega) (fun c_59 => ?_)
      refine a_aloadn_0 (pc := 62) dX3_readOperand_62 ?_
      refine a_aloadn_0 (pc := 63) dX3_readOperand_63 ?_
      refine rg_26 hm rfl dX3_readOperand_64 ?_
      refine rp_29 (v := nI (p)) hm rfl dX3_readOperand_67 (fun h21 hm21 => ?_)
      refine a_iconst (pc := 70) (v := nI 0) dX3_readOperand_70 (by decide) ?_
      exact a_iret (pc := 71) dX3_readOperand_71 rfl (zf hz) (kk _ _ ⟨x, p, 0, hm21, by omega, rfl, by omega, by omega, rfl⟩)

set_option maxRecDepth 100000 in
set_option maxHeartbeats 4000000 in
theorem cl_s {G : Cx} {h0 : List va_E} {t n : Nat} {b c : Nat → Nat} {k : Nat} (hz : gz G = false) (hb : BYC b n c) (IL : ∀ j, j ≤ k → CL G h0 t b n c j) (IO : CO G h0 t b n c (k + 1)) : CL G h0 t b n c (k + 1) := by
  intro md d h p op acc Q r x D hd hop hmd hp hPp H hm hTD kk
  obtain ⟨d, rfl, he⟩ := dpos (k := 9 * (6 - op) + (5 - md) + 4) (by omega)
  obtain ⟨hn, hc0, h255, hbc⟩ := id hb
  refine AM.of [some (.ref (gB G + 16)), some (.int (nI (md))), some (.int (nI (op))), none, none, none] pnX3 (Nat.le_of_ble_eq_true rfl) (by simp [lsub, lvI, Value.category]) ?_
  by_cases h5 : md = 5
  · refine a_iloadn_1 (pc := 0) dX3_readLevel_0 ?_
    refine a_iconst (pc := 1) (v := nI 5) dX3_readLevel_1 (by decide) ?_
    refine n_icmp_lt (tgt := 11) dX3_readLevel_2 (by decide) (by omega) (by decide) (fun c_2 => by omega) (fun c_2 => ?_)
    refine a_aloadn_0 (pc := 5) dX3_readLevel_5 ?_
    refine a_iloadn_2 (pc := 6) dX3_readLevel_6 ?_
    refine cv_X3_50 (pc := 7) rfl dX3_readLevel_7 hm.ob (Nat.le_of_ble_eq_true rfl) ?_
    refine IO d h p op acc _ r x D (by omega) hop hp hPp (by rw [← h5]; exact H) hm hTD (fun h2 v2 H9 => ?_)
    exact a_iret (pc := 10) dX3_readLevel_10 rfl (zf hz) (kk _ _ H9)
  · have md5 : md < 5 := by omega
    have fx : ∀ (h1 : List va_E) (f p1 j i : Nat) (x1 : Tx), f ≤ n → r = .inl f → RS G h0 h1 t b n p1 (nI f) x1 → tP x1 ≤ 126 → tN x1 = tN x → p1 < 1000 → j ≤ 126 → i < 1000 → AW G yX3_readLevel cX3_readLevel 6 (some .int) (rmx (d + 1) 0 0) (ZQ G 0 0 (h.length + 0) Q) 0 0 23 [some (.ref (gB G + 16)), some (.int (nI (md))), some (.int (nI (op))), some (.int (nI (j))), some (.int (nI (i))), none] [] h1 := by
      intro h1 f p1 j i x1 hf1 hr hm1 hP1 hN1 hp1 hj1 hi1
      subst hr
      refine a_iload_4 (pc := 23) dX3_readLevel_23 ?_
      refine a_bipush (pc := 25) (v := nI 120) dX3_readLevel_25 (by decide) ?_
      refine n_icmp_ge (tgt := 97) dX3_readLevel_27 (by decide) (by omega) (by decide) (fun c_27 => ?_) (fun c_27 => ?_)
      · refine a_iloadn_3 (pc := 97) dX3_readLevel_97 ?_
        exact a_iret (pc := 98) dX3_readLevel_98 rfl (zf hz) (kk _ _ ⟨x1, p1, j, hm1, hP1, hN1, hp1, hj1, rfl⟩)
      · refine a_aloadn_0 (pc := 30) dX3_readLevel_30 ?_
        refine rg_29 hm1 rfl dX3_readLevel_31 ?_
        refine n_if_ge (tgt := 97) dX3_readLevel_34 (by decide) (by omega) ?_
        refine a_iloadn_3 (pc := 97) dX3_readLevel_97 ?_
        exact a_iret (pc := 98) dX3_readLevel_98 rfl (zf hz) (kk _ _ ⟨x1, p1, j, hm1, hP1, hN1, hp1, hj1, rfl⟩)
    have lp : ∀ (jf : Nat) (h1 : List va_E) (q : Nat) (e : Ex) (x1 : Tx) (D1 : Nat → Ex) (j i : Nat), jf ≤ k → q ≤ n → p ≤ q → ps c jf (10 + md) op q e = some r → RS G h0 h1 t b n q (-1) x1 → TD x1 D1 → (tP x ≤ tP x1 ∧ tP x1 + p ≤ tP x + q) → (∀ i, i < tP x → D1 i = D i) → (tN x1 = tN x ∧ tF x1 = tF x ∧ tD x1 = tD x) → j < tP x1 → D1 j = e → i ≤ q → AW G yX3_readLevel cX3_readLevel 6 (some .int) (rmx (d + 1) 0 0) (ZQ G 0 0 (h.length + 0) Q) 0 0 23 [some (.ref (gB G + 16)), some (.int (nI (md))), some (.int (nI (op))), some (.int (nI (j))), some (.int (nI (i))), none] [] h1 := by
      intro jf
      induction jf with
      | zero => intro h1 q e x1 D1 j i _ _ _ H; exact (ps_0 H).elim
      | succ jf ih =>
        intro h1 q e x1 D1 j i hjf hq hpq H hm1 hTD1 hA1 hD1 hX1 hj1 hE1 hi1
        obtain ⟨ha1, hA1⟩ := hA1
        rcases ps_lp (L := md) H with ⟨hl, rfl⟩ | ⟨hl, ⟨f, hr1, rfl⟩ | ⟨q2, e2, hr1, hr2, H⟩⟩
        · refine a_iload_4 (pc := 23) dX3_readLevel_23 ?_
          refine a_bipush (pc := 25) (v := nI 120) dX3_readLevel_25 (by decide) ?_
          refine n_icmp_ge (tgt := 97) dX3_readLevel_27 (by decide) (by omega) (by decide) (fun c_27 => ?_) (fun c_27 => ?_)
          · refine a_iloadn_3 (pc := 97) dX3_readLevel_97 ?_
            exact a_iret (pc := 98) dX3_readLevel_98 rfl (zf hz) (kk _ _ ⟨x1, D1, j, hm1, hTD1, ⟨ha1, hA1⟩, hD1, hX1, hj1, hE1, rfl⟩)
          · refine a_aloadn_0 (pc := 30) dX3_readLevel_30 ?_
            refine rg_29 hm1 rfl dX3_readLevel_31 ?_
            refine a_if_ge (pc := 34) (tgt := 97) dX3_readLevel_34 (by decide) (fun c_34 => absurd c_34 (by decide)) (fun c_34 => ?_)
            refine a_aloadn_0 (pc := 37) dX3_readLevel_37 ?_
            refine cv_X3_38 (pc := 38) rfl dX3_readLevel_38 hm1.ob (Nat.le_of_ble_eq_true rfl) ?_
            refine r_next (by omega) hz hm1 hb (by omega) ?_
            refine cs_X3_54 (pc := 41) rfl dX3_readLevel_41 (Nat.le_of_ble_eq_true rfl) ?_
            refine r_levelOf (by omega) hz hb ?_
            refine a_iloadn_1 (pc := 44) dX3_readLevel_44 ?_
            refine a_icmp_ne (pc := 45) (tgt := 97) dX3_readLevel_45 (by decide) (fun c_45 => ?_) (fun c_45 => absurd c_45 (lvC_ne hl md5))
            refine a_iloadn_3 (pc := 97) dX3_readLevel_97 ?_
            exact a_iret (pc := 98) dX3_readLevel_98 rfl (zf hz) (kk _ _ ⟨x1, D1, j, hm1, hTD1, ⟨ha1, hA1⟩, hD1, hX1, hj1, hE1, rfl⟩)
        · have hqn := lvO_lt hc0 (show lvO (c q) < 5 by omega)
          have h25 := h255 q
          have hopS : c q ∈ opS := by
            rcases lvO_of hl md5 with g | g | g | g | g <;> (obtain ⟨-, g⟩ := g; simp; omega)
          by_cases hmd2 : md = 2
          · refine a_iload_4 (pc := 23) dX3_readLevel_23 ?_
            refine a_bipush (pc := 25) (v := nI 120) dX3_readLevel_25 (by decide) ?_
            refine n_icmp_ge (tgt := 97) dX3_readLevel_27 (by decide) (by omega) (by decide) (fun c_27 => by omega) (fun c_27 => ?_)
            refine a_aloadn_0 (pc := 30) dX3_readLevel_30 ?_
            refine rg_29 hm1 rfl dX3_readLevel_31 ?_
            refine a_if_ge (pc := 34) (tgt := 97) dX3_readLevel_34 (by decide) (fun c_34 => absurd c_34 (by decide)) (fun c_34 => ?_)
            refine a_aloadn_0 (pc := 37) dX3_readLevel_37 ?_
            refine cv_X3_38 (pc := 38) rfl dX3_readLevel_38 hm1.ob (Nat.le_of_ble_eq_true rfl) ?_
            refine r_next (by omega) hz hm1 hb (by omega) ?_
            refine cs_X3_54 (pc := 41) rfl dX3_readLevel_41 (Nat.le_of_ble_eq_true rfl) ?_
            refine r_levelOf (by omega) hz hb ?_
            refine a_iloadn_1 (pc := 44) dX3_readLevel_44 ?_
            refine a_icmp_ne (pc := 45) (tgt := 97) dX3_readLevel_45 (by decide) (fun c_45 => absurd (lvC_eq hl md5) c_45) (fun c_45 => ?_)
            refine a_aloadn_0 (pc := 48) dX3_readLevel_48 ?_
            refine cv_X3_38 (pc := 49) rfl dX3_readLevel_49 hm1.ob (Nat.le_of_ble_eq_true rfl) ?_
            refine r_next (by omega) hz hm1 hb (by omega) ?_
            refine a_istore_5 (pc := 52) dX3_readLevel_52 (by decide) (by first | rfl | trivial) ?_
            refine a_aloadn_0 (pc := 54) dX3_readLevel_54 ?_
            refine a_dup (pc := 55) dX3_readLevel_55 rfl ?_
            refine rg_26 hm1 rfl dX3_readLevel_56 ?_
            refine a_iconst (pc := 59) (v := nI 1) dX3_readLevel_59 (by decide) ?_
            refine n_iadd dX3_readLevel_60 ?_
            refine rp_26 (v := q + 1) hm1 rfl dX3_readLevel_61 (fun h21 hm21 => ?_)
            refine a_aloadn_0 (pc := 64) dX3_readLevel_64 ?_
            refine rg_18 hm21 rfl dX3_readLevel_65 ?_
            refine a_iload_5 (pc := 68) dX3_readLevel_68 ?_
            refine a_topi (nI (c q)) (nxv_lt hqn) ?_
            refine a_iloadn_3 (pc := 70) dX3_readLevel_70 ?_
            refine a_aloadn_0 (pc := 71) dX3_readLevel_71 ?_
            refine a_iloadn_1 (pc := 72) dX3_readLevel_72 ?_
            refine a_iconst (pc := 73) (v := nI 1) dX3_readLevel_73 (by decide) ?_
            refine n_iadd dX3_readLevel_74 ?_
            refine a_iloadn_2 (pc := 75) dX3_readLevel_75 ?_
            refine cv_X3_42 (pc := 76) rfl dX3_readLevel_76 hm21.ob (Nat.le_of_ble_eq_true rfl) ?_
            refine IL jf (by omega) (md + 1) d _ (q + 1) op e _ _ x1 D1 (by omega) (by omega) (by omega) (by omega) (by omega) hr1 hm21 hTD1 (fun h2 v2 H9 => ?_)
            have hf1 := (ps_pb c n hc0 _ _ _ _ _ _ hr1 (by omega) (by omega)).1
            obtain ⟨x2, p2, j2, hm2, hP2, hN2, hp2, hj2, rfl⟩ := H9
            refine cv_X3_57 (pc := 79) rfl dX3_readLevel_79 hm2.tx.1 (Nat.le_of_ble_eq_true rfl) ?_
            refine r_addPart (by omega) hz hm2 (fun hP8 h8 hm8 => ?_) (fun hP8 => ?_) (by omega)
            · refine a_istoren_3 (pc := 82) dX3_readLevel_82 (by decide) (by first | rfl | trivial) ?_
              refine a_iloadn_1 (pc := 83) dX3_readLevel_83 ?_
              refine a_iconst (pc := 84) (v := nI 2) dX3_readLevel_84 (by decide) ?_
              refine n_icmp_ne (tgt := 91) dX3_readLevel_85 (by decide) (by omega) (by decide) (fun c_85 => by omega) (fun c_85 => ?_)
              refine a_goto (pc := 88) (tgt := 97) dX3_readLevel_88 (by decide) ?_
              refine a_iloadn_3 (pc := 97) dX3_readLevel_97 ?_
              exact a_iret (pc := 98) dX3_readLevel_98 rfl (zf hz) (kk _ _ ⟨_, p2, tP x2, hm8, hP8, hN2.trans hX1.1, hp2, by omega, rfl⟩)
            · refine a_istoren_3 (pc := 82) dX3_readLevel_82 (by decide) (by first | rfl | trivial) ?_
              refine a_iloadn_1 (pc := 83) dX3_readLevel_83 ?_
              refine a_iconst (pc := 84) (v := nI 2) dX3_readLevel_84 (by decide) ?_
              refine n_icmp_ne (tgt := 91) dX3_readLevel_85 (by decide) (by omega) (by decide) (fun c_85 => by omega) (fun c_85 => ?_)
              refine a_goto (pc := 88) (tgt := 97) dX3_readLevel_88 (by decide) ?_
              refine a_iloadn_3 (pc := 97) dX3_readLevel_97 ?_
              exact a_iret (pc := 98) dX3_readLevel_98 rfl (zf hz) (kk _ _ ⟨_, p2, 125, hm2, hP2, hN2.trans hX1.1, hp2, by omega, rfl⟩)
          · refine a_iload_4 (pc := 23) dX3_readLevel_23 ?_
            refine a_bipush (pc := 25) (v := nI 120) dX3_readLevel_25 (by decide) ?_
            refine n_icmp_ge (tgt := 97) dX3_readLevel_27 (by decide) (by omega) (by decide) (fun c_27 => by omega) (fun c_27 => ?_)
            refine a_aloadn_0 (pc := 30) dX3_readLevel_30 ?_
            refine rg_29 hm1 rfl dX3_readLevel_31 ?_
            refine a_if_ge (pc := 34) (tgt := 97) dX3_readLevel_34 (by decide) (fun c_34 => absurd c_34 (by decide)) (fun c_34 => ?_)
            refine a_aloadn_0 (pc := 37) dX3_readLevel_37 ?_
            refine cv_X3_38 (pc := 38) rfl dX3_readLevel_38 hm1.ob (Nat.le_of_ble_eq_true rfl) ?_
            refine r_next (by omega) hz hm1 hb (by omega) ?_
            refine cs_X3_54 (pc := 41) rfl dX3_readLevel_41 (Nat.le_of_ble_eq_true rfl) ?_
            refine r_levelOf (by omega) hz hb ?_
            refine a_iloadn_1 (pc := 44) dX3_readLevel_44 ?_
            refine a_icmp_ne (pc := 45) (tgt := 97) dX3_readLevel_45 (by decide) (fun c_45 => absurd (lvC_eq hl md5) c_45) (fun c_45 => ?_)
            refine a_aloadn_0 (pc := 48) dX3_readLevel_48 ?_
            refine cv_X3_38 (pc := 49) rfl dX3_readLevel_49 hm1.ob (Nat.le_of_ble_eq_true rfl) ?_
            refine r_next (by omega) hz hm1 hb (by omega) ?_
            refine a_istore_5 (pc := 52) dX3_readLevel_52 (by decide) (by first | rfl | trivial) ?_
            refine a_aloadn_0 (pc := 54) dX3_readLevel_54 ?_
            refine a_dup (pc := 55) dX3_readLevel_55 rfl ?_
            refine rg_26 hm1 rfl dX3_readLevel_56 ?_
            refine a_iconst (pc := 59) (v := nI 1) dX3_readLevel_59 (by decide) ?_
            refine n_iadd dX3_readLevel_60 ?_
            refine rp_26 (v := q + 1) hm1 rfl dX3_readLevel_61 (fun h21 hm21 => ?_)
            refine a_aloadn_0 (pc := 64) dX3_readLevel_64 ?_
            refine rg_18 hm21 rfl dX3_readLevel_65 ?_
            refine a_iload_5 (pc := 68) dX3_readLevel_68 ?_
            refine a_topi (nI (c q)) (nxv_lt hqn) ?_
            refine a_iloadn_3 (pc := 70) dX3_readLevel_70 ?_
            refine a_aloadn_0 (pc := 71) dX3_readLevel_71 ?_
            refine a_iloadn_1 (pc := 72) dX3_readLevel_72 ?_
            refine a_iconst (pc := 73) (v := nI 1) dX3_readLevel_73 (by decide) ?_
            refine n_iadd dX3_readLevel_74 ?_
            refine a_iloadn_2 (pc := 75) dX3_readLevel_75 ?_
            refine cv_X3_42 (pc := 76) rfl dX3_readLevel_76 hm21.ob (Nat.le_of_ble_eq_true rfl) ?_
            refine IL jf (by omega) (md + 1) d _ (q + 1) op e _ _ x1 D1 (by omega) (by omega) (by omega) (by omega) (by omega) hr1 hm21 hTD1 (fun h2 v2 H9 => ?_)
            have hf1 := (ps_pb c n hc0 _ _ _ _ _ _ hr1 (by omega) (by omega)).1
            obtain ⟨x2, p2, j2, hm2, hP2, hN2, hp2, hj2, rfl⟩ := H9
            refine cv_X3_57 (pc := 79) rfl dX3_readLevel_79 hm2.tx.1 (Nat.le_of_ble_eq_true rfl) ?_
            refine r_addPart (by omega) hz hm2 (fun hP8 h8 hm8 => ?_) (fun hP8 => ?_) (by omega)
            · refine a_istoren_3 (pc := 82) dX3_readLevel_82 (by decide) (by first | rfl | trivial) ?_
              refine a_iloadn_1 (pc := 83) dX3_readLevel_83 ?_
              refine a_iconst (pc := 84) (v := nI 2) dX3_readLevel_84 (by decide) ?_
              refine n_icmp_ne (tgt := 91) dX3_readLevel_85 (by decide) (by omega) (by decide) (fun c_85 => ?_) (fun c_85 => by omega)
              refine a_iinc_4 (pc := 91) (v := nI (i + 1)) dX3_readLevel_91 (nI_add _ _) (by decide) (by first | rfl | trivial) ?_
              refine a_goto (pc := 94) (tgt := 23) dX3_readLevel_94 (by decide) ?_
              refine a_ls (ls' := [some _, some _, some _, some _, some _, none, none]) ⟨rfl, rfl, rfl, rfl, rfl, trivial⟩ ?_
              exact fx _ f p2 (tP x2) _ _ hf1 rfl hm8 hP8 (hN2.trans hX1.1) hp2 (by omega) (by omega)
            · refine a_istoren_3 (pc := 82) dX3_readLevel_82 (by decide) (by first | rfl | trivial) ?_
              refine a_iloadn_1 (pc := 83) dX3_readLevel_83 ?_
              refine a_iconst (pc := 84) (v := nI 2) dX3_readLevel_84 (by decide) ?_
              refine n_icmp_ne (tgt := 91) dX3_readLevel_85 (by decide) (by omega) (by decide) (fun c_85 => ?_) (fun c_85 => by omega)
              refine a_iinc_4 (pc := 91) (v := nI (i + 1)) dX3_readLevel_91 (nI_add _ _) (by decide) (by first | rfl | trivial) ?_
              refine a_goto (pc := 94) (tgt := 23) dX3_readLevel_94 (by decide) ?_
              refine a_ls (ls' := [some _, some _, some _, some _, some _, none, none]) ⟨rfl, rfl, rfl, rfl, rfl, trivial⟩ ?_
              exact fx _ f p2 125 _ _ hf1 rfl hm2 hP2 (hN2.trans hX1.1) hp2 (by omega) (by omega)
        · have hqn := lvO_lt hc0 (show lvO (c q) < 5 by omega)
          have h25 := h255 q
          have hopS : c q ∈ opS := by
            rcases lvO_of hl md5 with g | g | g | g | g <;> (obtain ⟨-, g⟩ := g; simp; omega)
          by_cases hmd2 : md = 2
          · refine a_iload_4 (pc := 23) dX3_readLevel_23 ?_
            refine a_bipush (pc := 25) (v := nI 120) dX3_readLevel_25 (by decide) ?_
            refine n_icmp_ge (tgt := 97) dX3_readLevel_27 (by decide) (by omega) (by decide) (fun c_27 => by omega) (fun c_27 => ?_)
            refine a_aloadn_0 (pc := 30) dX3_readLevel_30 ?_
            refine rg_29 hm1 rfl dX3_readLevel_31 ?_
            refine a_if_ge (pc := 34) (tgt := 97) dX3_readLevel_34 (by decide) (fun c_34 => absurd c_34 (by decide)) (fun c_34 => ?_)
            refine a_aloadn_0 (pc := 37) dX3_readLevel_37 ?_
            refine cv_X3_38 (pc := 38) rfl dX3_readLevel_38 hm1.ob (Nat.le_of_ble_eq_true rfl) ?_
            refine r_next (by omega) hz hm1 hb (by omega) ?_
            refine cs_X3_54 (pc := 41) rfl dX3_readLevel_41 (Nat.le_of_ble_eq_true rfl) ?_
            refine r_levelOf (by omega) hz hb ?_
            refine a_iloadn_1 (pc := 44) dX3_readLevel_44 ?_
            refine a_icmp_ne (pc := 45) (tgt := 97) dX3_readLevel_45 (by decide) (fun c_45 => absurd (lvC_eq hl md5) c_45) (fun c_45 => ?_)
            refine a_aloadn_0 (pc := 48) dX3_readLevel_48 ?_
            refine cv_X3_38 (pc := 49) rfl dX3_readLevel_49 hm1.ob (Nat.le_of_ble_eq_true rfl) ?_
            refine r_next (by omega) hz hm1 hb (by omega) ?_
            refine a_istore_5 (pc := 52) dX3_readLevel_52 (by decide) (by first | rfl | trivial) ?_
            refine a_aloadn_0 (pc := 54) dX3_readLevel_54 ?_
            refine a_dup (pc := 55) dX3_readLevel_55 rfl ?_
            refine rg_26 hm1 rfl dX3_readLevel_56 ?_
            refine a_iconst (pc := 59) (v := nI 1) dX3_readLevel_59 (by decide) ?_
            refine n_iadd dX3_readLevel_60 ?_
            refine rp_26 (v := q + 1) hm1 rfl dX3_readLevel_61 (fun h21 hm21 => ?_)
            refine a_aloadn_0 (pc := 64) dX3_readLevel_64 ?_
            refine rg_18 hm21 rfl dX3_readLevel_65 ?_
            refine a_iload_5 (pc := 68) dX3_readLevel_68 ?_
            refine a_topi (nI (c q)) (nxv_lt hqn) ?_
            refine a_iloadn_3 (pc := 70) dX3_readLevel_70 ?_
            refine a_aloadn_0 (pc := 71) dX3_readLevel_71 ?_
            refine a_iloadn_1 (pc := 72) dX3_readLevel_72 ?_
            refine a_iconst (pc := 73) (v := nI 1) dX3_readLevel_73 (by decide) ?_
            refine n_iadd dX3_readLevel_74 ?_
            refine a_iloadn_2 (pc := 75) dX3_readLevel_75 ?_
            refine cv_X3_42 (pc := 76) rfl dX3_readLevel_76 hm21.ob (Nat.le_of_ble_eq_true rfl) ?_
            refine IL jf (by omega) (md + 1) d _ (q + 1) op e _ _ x1 D1 (by omega) (by omega) (by omega) (by omega) (by omega) hr1 hm21 hTD1 (fun h2 v2 H9 => ?_)
            have hb2 := ps_pb c n hc0 _ _ _ _ _ _ hr1 (by omega) (by omega)
            obtain ⟨hq2, hl2, -⟩ := hb2
            obtain ⟨x2, D2, j2, hm2, hTD2, ⟨ha2, hA2⟩, hD2, hX2, hj2, hE2, rfl⟩ := H9
            refine cv_X3_57 (pc := 79) rfl dX3_readLevel_79 hm2.tx.1 (Nat.le_of_ble_eq_true rfl) ?_
            refine r_addPart (by omega) hz hm2 (fun hP8 h8 hm8 => ?_) (fun hP8 => absurd (show tP x2 < 126 by omega) hP8) (by omega)
            refine a_istoren_3 (pc := 82) dX3_readLevel_82 (by decide) (by first | rfl | trivial) ?_
            refine a_iloadn_1 (pc := 83) dX3_readLevel_83 ?_
            refine a_iconst (pc := 84) (v := nI 2) dX3_readLevel_84 (by decide) ?_
            refine n_icmp_ne (tgt := 91) dX3_readLevel_85 (by decide) (by omega) (by decide) (fun c_85 => by omega) (fun c_85 => ?_)
            refine a_goto (pc := 88) (tgt := 97) dX3_readLevel_88 (by decide) ?_
            refine a_iloadn_3 (pc := 97) dX3_readLevel_97 ?_
            exact a_iret (pc := 98) dX3_readLevel_98 rfl (zf hz) (kk _ _ (by rw [hr2 hmd2]; exact ⟨_, _, tP x2, hm8, TD_add hTD2 hopS (by omega) hj2, ⟨by show _ ≤ tP x2 + 1; omega, by show tP x2 + 1 + p ≤ _; omega⟩, fun i hi => (up_ne (by omega)).trans ((hD2 i (by omega)).trans (hD1 i hi)), ⟨hX2.1.trans hX1.1, hX2.2.1.trans hX1.2.1, hX2.2.2.trans hX1.2.2⟩, Nat.lt_succ_self _, up_eq.trans (by rw [hE2, hD2 j hj1, hE1]), rfl⟩))
          · refine a_iload_4 (pc := 23) dX3_readLevel_23 ?_
            refine a_bipush (pc := 25) (v := nI 120) dX3_readLevel_25 (by decide) ?_
            refine n_icmp_ge (tgt := 97) dX3_readLevel_27 (by decide) (by omega) (by decide) (fun c_27 => by omega) (fun c_27 => ?_)
            refine a_aloadn_0 (pc := 30) dX3_readLevel_30 ?_
            refine rg_29 hm1 rfl dX3_readLevel_31 ?_
            refine a_if_ge (pc := 34) (tgt := 97) dX3_readLevel_34 (by decide) (fun c_34 => absurd c_34 (by decide)) (fun c_34 => ?_)
            refine a_aloadn_0 (pc := 37) dX3_readLevel_37 ?_
            refine cv_X3_38 (pc := 38) rfl dX3_readLevel_38 hm1.ob (Nat.le_of_ble_eq_true rfl) ?_
            refine r_next (by omega) hz hm1 hb (by omega) ?_
            refine cs_X3_54 (pc := 41) rfl dX3_readLevel_41 (Nat.le_of_ble_eq_true rfl) ?_
            refine r_levelOf (by omega) hz hb ?_
            refine a_iloadn_1 (pc := 44) dX3_readLevel_44 ?_
            refine a_icmp_ne (pc := 45) (tgt := 97) dX3_readLevel_45 (by decide) (fun c_45 => absurd (lvC_eq hl md5) c_45) (fun c_45 => ?_)
            refine a_aloadn_0 (pc := 48) dX3_readLevel_48 ?_
            refine cv_X3_38 (pc := 49) rfl dX3_readLevel_49 hm1.ob (Nat.le_of_ble_eq_true rfl) ?_
            refine r_next (by omega) hz hm1 hb (by omega) ?_
            refine a_istore_5 (pc := 52) dX3_readLevel_52 (by decide) (by first | rfl | trivial) ?_
            refine a_aloadn_0 (pc := 54) dX3_readLevel_54 ?_
            refine a_dup (pc := 55) dX3_readLevel_55 rfl ?_
            refine rg_26 hm1 rfl dX3_readLevel_56 ?_
            refine a_iconst (pc := 59) (v := nI 1) dX3_readLevel_59 (by decide) ?_
            refine n_iadd dX3_readLevel_60 ?_
            refine rp_26 (v := q + 1) hm1 rfl dX3_readLevel_61 (fun h21 hm21 => ?_)
            refine a_aloadn_0 (pc := 64) dX3_readLevel_64 ?_
            refine rg_18 hm21 rfl dX3_readLevel_65 ?_
            refine a_iload_5 (pc := 68) dX3_readLevel_68 ?_
            refine a_topi (nI (c q)) (nxv_lt hqn) ?_
            refine a_iloadn_3 (pc := 70) dX3_readLevel_70 ?_
            refine a_aloadn_0 (pc := 71) dX3_readLevel_71 ?_
            refine a_iloadn_1 (pc := 72) dX3_readLevel_72 ?_
            refine a_iconst (pc := 73) (v := nI 1) dX3_readLevel_73 (by decide) ?_
            refine n_iadd dX3_readLevel_74 ?_
            refine a_iloadn_2 (pc := 75) dX3_readLevel_75 ?_
            refine cv_X3_42 (pc := 76) rfl dX3_readLevel_76 hm21.ob (Nat.le_of_ble_eq_true rfl) ?_
            refine IL jf (by omega) (md + 1) d _ (q + 1) op e _ _ x1 D1 (by omega) (by omega) (by omega) (by omega) (by omega) hr1 hm21 hTD1 (fun h2 v2 H9 => ?_)
            have hb2 := ps_pb c n hc0 _ _ _ _ _ _ hr1 (by omega) (by omega)
            obtain ⟨hq2, hl2, -⟩ := hb2
            obtain ⟨x2, D2, j2, hm2, hTD2, ⟨ha2, hA2⟩, hD2, hX2, hj2, hE2, rfl⟩ := H9
            refine cv_X3_57 (pc := 79) rfl dX3_readLevel_79 hm2.tx.1 (Nat.le_of_ble_eq_true rfl) ?_
            refine r_addPart (by omega) hz hm2 (fun hP8 h8 hm8 => ?_) (fun hP8 => absurd (show tP x2 < 126 by omega) hP8) (by omega)
            refine a_istoren_3 (pc := 82) dX3_readLevel_82 (by decide) (by first | rfl | trivial) ?_
            refine a_iloadn_1 (pc := 83) dX3_readLevel_83 ?_
            refine a_iconst (pc := 84) (v := nI 2) dX3_readLevel_84 (by decide) ?_
            refine n_icmp_ne (tgt := 91) dX3_readLevel_85 (by decide) (by omega) (by decide) (fun c_85 => ?_) (fun c_85 => by omega)
            refine a_iinc_4 (pc := 91) (v := nI (i + 1)) dX3_readLevel_91 (nI_add _ _) (by decide) (by first | rfl | trivial) ?_
            refine a_goto (pc := 94) (tgt := 23) dX3_readLevel_94 (by decide) ?_
            refine a_ls (ls' := [some _, some _, some _, some _, some _, none, none]) ⟨rfl, rfl, rfl, rfl, rfl, trivial⟩ ?_
            exact ih _ q2 _ _ _ (tP x2) (i + 1) (by omega) hq2 (by omega) (H hmd2) hm8 (TD_add hTD2 hopS (by omega) hj2) ⟨by show _ ≤ tP x2 + 1; omega, by show tP x2 + 1 + p ≤ _; omega⟩ (fun i hi => (up_ne (by omega)).trans ((hD2 i (by omega)).trans (hD1 i hi))) ⟨hX2.1.trans hX1.1, hX2.2.1.trans hX1.2.1, hX2.2.2.trans hX1.2.2⟩ (Nat.lt_succ_self _) (up_eq.trans (by rw [hE2, hD2 j hj1, hE1])) (by omega)
    rcases ps_lv md5 H with ⟨f, hr1, rfl⟩ | ⟨q, e, hr1, H⟩
    · refine a_iloadn_1 (pc := 0) dX3_readLevel_0 ?_
      refine a_iconst (pc := 1) (v := nI 5) dX3_readLevel_1 (by decide) ?_
      refine n_icmp_lt (tgt := 11) dX3_readLevel_2 (by decide) (by omega) (by decide) (fun c_2 => ?_) (fun c_2 => by omega)
      refine a_aloadn_0 (pc := 11) dX3_readLevel_11 ?_
      refine a_iloadn_1 (pc := 12) dX3_readLevel_12 ?_
      refine a_iconst (pc := 13) (v := nI 1) dX3_readLevel_13 (by decide) ?_
      refine n_iadd dX3_readLevel_14 ?_
      refine a_iloadn_2 (pc := 15) dX3_readLevel_15 ?_
      refine cv_X3_42 (pc := 16) rfl dX3_readLevel_16 hm.ob (Nat.le_of_ble_eq_true rfl) ?_
      refine IL k (Nat.le_refl k) (md + 1) d h p op acc _ _ x D (by omega) (by omega) (by omega) (by omega) (by omega) hr1 hm hTD (fun h2 v2 H9 => ?_)
      have hf1 := (ps_pb c n hc0 _ _ _ _ _ _ hr1 (by omega) (by omega)).1
      obtain ⟨x2, p2, j2, hm2, hP2, hN2, hp2, hj2, rfl⟩ := H9
      refine a_istoren_3 (pc := 19) dX3_readLevel_19 (by decide) (by first | rfl | trivial) ?_
      refine a_iconst (pc := 20) (v := nI 0) dX3_readLevel_20 (by decide) ?_
      refine a_istore_4 (pc := 21) dX3_readLevel_21 (by decide) (by first | rfl | trivial) ?_
      exact fx _ f p2 j2 0 _ hf1 rfl hm2 hP2 hN2 hp2 hj2 (by omega)
    · refine a_iloadn_1 (pc := 0) dX3_readLevel_0 ?_
      refine a_iconst (pc := 1) (v := nI 5) dX3_readLevel_1 (by decide) ?_
      refine n_icmp_lt (tgt := 11) dX3_readLevel_2 (by decide) (by omega) (by decide) (fun c_2 => ?_) (fun c_2 => by omega)
      refine a_aloadn_0 (pc := 11) dX3_readLevel_11 ?_
      refine a_iloadn_1 (pc := 12) dX3_readLevel_12 ?_
      refine a_iconst (pc := 13) (v := nI 1) dX3_readLevel_13 (by decide) ?_
      refine n_iadd dX3_readLevel_14 ?_
      refine a_iloadn_2 (pc := 15) dX3_readLevel_15 ?_
      refine cv_X3_42 (pc := 16) rfl dX3_readLevel_16 hm.ob (Nat.le_of_ble_eq_true rfl) ?_
      refine IL k (Nat.le_refl k) (md + 1) d h p op acc _ _ x D (by omega) (by omega) (by omega) (by omega) (by omega) hr1 hm hTD (fun h2 v2 H9 => ?_)
      have hb2 := ps_pb c n hc0 _ _ _ _ _ _ hr1 (by omega) (by omega)
      obtain ⟨hq2, hl2, -⟩ := hb2
      obtain ⟨x2, D2, j2, hm2, hTD2, ⟨ha2, hA2⟩, hD2, hX2, hj2, hE2, rfl⟩ := H9
      refine a_istoren_3 (pc := 19) dX3_readLevel_19 (by decide) (by first | rfl | trivial) ?_
      refine a_iconst (pc := 20) (v := nI 0) dX3_readLevel_20 (by decide) ?_
      refine a_istore_4 (pc := 21) dX3_readLevel_21 (by decide) (by first | rfl | trivial) ?_
      exact lp k _ q e x2 D2 j2 0 (Nat.le_refl k) hq2 hl2 H hm2 hTD2 ⟨ha2, hA2⟩ hD2 hX2 hj2 hE2 (Nat.zero_le _)

theorem cl_all {G : Cx} {h0 : List va_E} {t n : Nat} {b c : Nat → Nat} (hz : gz G = false) (hb : BYC b n c) : ∀ k, (∀ j, j ≤ k → CL G h0 t b n c j) ∧ (∀ j, j ≤ k → CO G h0 t b n c j)
  | 0 => by
    refine ⟨?_, ?_⟩ <;> (intro j hj; obtain rfl : j = 0 := by omega)
    · intro md d h p op acc Q r x D _ _ _ _ _ H; exact (ps_0 H).elim
    · intro d h p op acc Q r x D _ _ _ _ H; exact (ps_0 H).elim
  | k + 1 => by
    obtain ⟨IL, IO⟩ := cl_all hz hb k
    have I1 := co_s hz hb (IL k (Nat.le_refl k)) (IO k (Nat.le_refl k))
    refine ⟨fun j hj => ?_, fun j hj => ?_⟩ <;> rcases Nat.lt_or_ge k j with q | q
    · obtain rfl : j = k + 1 := by omega
      exact cl_s hz hb IL I1
    · exact IL j q
    · obtain rfl : j = k + 1 := by omega
      exact I1
    · exact IO j q
