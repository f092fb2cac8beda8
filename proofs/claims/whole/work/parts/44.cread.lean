/-! lines -/
def lineR (x : Tx) (D : Nat → Ex) (nm : En) : Nat → Option Int32
  | 0 => none
  | i + 1 => match lineR x D nm i with
    | some v => some v
    | none => match tF x i with
      | none => some (D (tD x i) nm)
      | some j => if D j nm = 0 then none else some (D (tD x i) nm)
def TLn (x : Tx) (D : Nat → Ex) (A : An) : Prop := (∀ nm, A nm = lineR x D nm (tN x)) ∧ ∀ i, i < tN x → tD x i < tP x ∧ ∀ j, tF x i = some j → j < tP x
theorem lineR_congr {x x1 : Tx} {D D1 : Nat → Ex} {nm : En} : ∀ i, (∀ j, j < i → tF x1 j = tF x j ∧ tD x1 j = tD x j ∧ D1 (tD x j) = D (tD x j) ∧ ∀ k, tF x j = some k → D1 k = D k) → lineR x1 D1 nm i = lineR x D nm i
  | 0, _ => rfl
  | i + 1, h => by
    obtain ⟨h1, h2, h3, h4⟩ := h i (by omega)
    rw [lineR, lineR, lineR_congr i (fun j hj => h j (by omega)), h1, h2, h3]
    cases hF : tF x i with
    | none => rfl
    | some k => dsimp only; rw [h4 k hF]
theorem TLn_ext {x x1 : Tx} {D D1 : Nat → Ex} {A : An} (H : TLn x D A) (hP : tP x ≤ tP x1) (hD : ∀ i, i < tP x → D1 i = D i) (hX : tN x1 = tN x ∧ tF x1 = tF x ∧ tD x1 = tD x) : TLn x1 D1 A := by
  obtain ⟨h1, h2⟩ := H
  obtain ⟨e1, e2, e3⟩ := hX
  refine ⟨fun nm => ?_, fun i hi => ?_⟩
  · rw [h1 nm, e1]
    refine (lineR_congr _ (fun j hj => ?_)).symm
    obtain ⟨g1, g2⟩ := h2 j hj
    exact ⟨by rw [e2], by rw [e3], hD _ g1, fun k hk => hD _ (g2 k hk)⟩
  · obtain ⟨g1, g2⟩ := h2 i (by omega)
    rw [e2, e3]
    exact ⟨by omega, fun j hj => by have := g2 j hj; omega⟩
abbrev xline (x : Tx) (ce : Option Nat) (z : Nat) : Tx := xN (xD (xF x (va_up (tF x) (tN x) ce)) (va_up (tD x) (tN x) z)) (tN x + 1)
theorem TLn_add {x : Tx} {D : Nat → Ex} {A : An} {ce : Option Nat} {z : Nat} (H : TLn x D A) (hz : z < tP x) (hc : ∀ i, ce = some i → i < tP x) : TLn (xline x ce z) D (lnA A (ce.map D) (D z)) := by
  obtain ⟨h1, h2⟩ := H
  refine ⟨fun nm => ?_, fun i hi => ?_⟩
  · show lnA A (ce.map D) (D z) nm = lineR (xline x ce z) D nm (tN x + 1)
    have e : lineR (xline x ce z) D nm (tN x) = lineR x D nm (tN x) := lineR_congr _ (fun j hj => ⟨up_ne (by omega), up_ne (by omega), rfl, fun _ _ => rfl⟩)
    have e1 : tF (xline x ce z) (tN x) = ce := up_eq
    have e2 : tD (xline x ce z) (tN x) = z := up_eq
    rw [lineR, e, e1, e2, ← h1 nm]
    unfold lnA
    cases A nm with
    | some v => rfl
    | none => cases ce <;> rfl
  · have hi : i < tN x + 1 := hi
    show va_up (tD x) (tN x) z i < tP x ∧ ∀ j, va_up (tF x) (tN x) ce i = some j → j < tP x
    by_cases e : i = tN x
    · subst e
      rw [up_eq, up_eq]
      exact ⟨hz, hc⟩
    · rw [up_ne e, up_ne e]
      exact h2 i (by omega)
theorem TD_0 (x : Tx) : TD (xN (xP x 6) 0) (fun i nm => nm i) := ⟨Nat.le_refl _, fun _ _ => rfl, fun i h6 hi => absurd (show i < 6 from hi) (by omega)⟩
theorem TLn_0 (x : Tx) (D : Nat → Ex) : TLn (xN (xP x 6) 0) D (fun _ => none) := ⟨fun _ => rfl, fun i hi => absurd hi (Nat.not_lt_zero i)⟩
theorem pln_st {c : Nat → Nat} {p : Nat} {r : Nat ⊕ (Nat × Option Ex × Ex)} (H : pln c p = some r) :
    (∃ f, ps c 2000 0 0 p ez = some (.inl f) ∧ r = .inl f) ∨
    (∃ q e, ps c 2000 0 0 p ez = some (.inr (q, e)) ∧ ¬ c q = 63 ∧ r = .inr (q, none, e)) ∨
    (∃ q e, ps c 2000 0 0 p ez = some (.inr (q, e)) ∧ c q = 63 ∧ ∃ f, ps c 2000 0 0 (q + 1) ez = some (.inl f) ∧ r = .inl f) ∨
    (∃ q e, ps c 2000 0 0 p ez = some (.inr (q, e)) ∧ c q = 63 ∧ ∃ q2 e2, ps c 2000 0 0 (q + 1) ez = some (.inr (q2, e2)) ∧ r = .inr (q2, some e, e2)) := by
  rw [pln] at H
  cases h1 : ps c 2000 0 0 p ez with
  | none => rw [h1] at H; cases H
  | some r1 =>
    rw [h1] at H
    match r1, H with
    | .inl f, H => cases H; exact Or.inl ⟨f, rfl, rfl⟩
    | .inr (q, e), H =>
      dsimp only at H
      by_cases h63 : c q = 63
      · rw [if_pos h63] at H
        cases h2 : ps c 2000 0 0 (q + 1) ez with
        | none => rw [h2] at H; cases H
        | some r2 =>
          rw [h2] at H
          match r2, H with
          | .inl f, H => cases H; exact Or.inr (Or.inr (Or.inl ⟨q, e, rfl, h63, f, h2, rfl⟩))
          | .inr (q2, e2), H => cases H; exact Or.inr (Or.inr (Or.inr ⟨q, e, rfl, h63, q2, e2, h2, rfl⟩))
      · rw [if_neg h63] at H
        cases H
        exact Or.inr (Or.inl ⟨q, e, rfl, h63, rfl⟩)
theorem pl_ln {c : Nat → Nat} {n k p : Nat} {A : An} {r : Nat ⊕ An} (H : pl c n (k + 1) p A = some r) :
    (∃ f, pln c p = some (.inl f) ∧ r = .inl f) ∨ (∃ q ce e, pln c p = some (.inr (q, ce, e)) ∧ PN c n k q (lnA A ce e) r) := by
  rw [pl] at H
  cases h1 : pln c p with
  | none => rw [h1] at H; cases H
  | some r1 =>
    rw [h1] at H
    match r1, H with
    | .inl f, H => cases H; exact Or.inl ⟨f, rfl, rfl⟩
    | .inr (q, ce, e), H =>
      refine Or.inr ⟨q, ce, e, rfl, ?_⟩
      dsimp only at H
      by_cases h59 : c q = 59
      · rw [if_pos h59] at H; exact Or.inl ⟨h59, H⟩
      · rw [if_neg h59] at H
        by_cases hq : q < n
        · rw [if_pos hq] at H; cases H; exact Or.inr ⟨h59, Or.inl ⟨hq, rfl⟩⟩
        · rw [if_neg hq] at H; cases H; exact Or.inr ⟨h59, Or.inr ⟨hq, rfl⟩⟩
def LPr (G : Cx) (h0 : List va_E) (t : Nat) (b : Nat → Nat) (n p : Nat) (x : Tx) (A : An) (r : Nat ⊕ (Nat × Option Ex × Ex)) (h1 : List va_E) : Prop := match r with
  | .inl f => ∃ x1 p1, RS G h0 h1 t b n p1 (nI f) x1 ∧ tP x1 ≤ 126 ∧ tN x1 = tN x + 1 ∧ p1 < 1000 ∧ f ≤ n
  | .inr (q, ce, e) => ∃ x1 D1, RS G h0 h1 t b n q (-1) x1 ∧ TD x1 D1 ∧ (tP x ≤ tP x1 ∧ tP x1 + p ≤ tP x + q) ∧ TLn x1 D1 (lnA A ce e) ∧ tN x1 = tN x + 1 ∧ q ≤ n ∧ p < q
set_option maxRecDepth 100000 in
set_option maxHeartbeats 4000000 in
theorem r_readLine {G : Cx} {d t n p : Nat} {h h0 : List va_E} {b : Nat → Nat} {x : Tx} {Q : Option Value → List va_E → Prop} {c : Nat → Nat} {D : Nat → Ex} {A : An} {r : Nat ⊕ (Nat × Option Ex × Ex)} (hd : 66 ≤ d) (hz : gz G = false) (hb : BYC b n c) (hp : p ≤ n) (hPp : tP x ≤ 6 + p) (hN : tN x ≤ 60) (H : pln c p = some r) (hm : RS G h0 h t b n p (-1) x) (hTD : TD x D) (hTL : TLn x D A) (k : ∀ h1, LPr G h0 t b n p x A r h1 → Q none h1) : AM G yX3_readLine cX3_readLine 2 none d 0 0 [.ref (gB G + 16)] h Q := by
  obtain ⟨d, rfl, he⟩ := dpos hd
  refine AM.of [some (.ref (gB G + 16)), none] pnX3 (Nat.le_of_ble_eq_true rfl) (by simp [lsub, lvI, Value.category]) ?_
  obtain ⟨hn, hc0, h255, hbc⟩ := id hb
  have CLk := (cl_all (G := G) (h0 := h0) (t := t) hz hb 2000).1 2000 (Nat.le_refl _)
  rcases pln_st H with ⟨f, hr1, rfl⟩ | ⟨q, e, hr1, h63, rfl⟩ | ⟨q, e, hr1, h63, f, hr2, rfl⟩ | ⟨q, e, hr1, h63, q2, e2, hr2, rfl⟩
  · refine a_aloadn_0 (pc := 0) dX3_readLine_0 ?_
    refine a_iconst (pc := 1) (v := nI 0) dX3_readLine_1 (by decide) ?_
    refine a_iconst (pc := 2) (v := nI 0) dX3_readLine_2 (by decide) ?_
    refine cv_X3_42 (pc := 3) rfl dX3_readLine_3 hm.ob (Nat.le_of_ble_eq_true rfl) ?_
    refine CLk 0 d _ p 0 ez _ _ x D (by omega) (by omega) (by omega) (by omega) (by omega) hr1 hm hTD (fun h2 v2 H9 => ?_)
    have hf1 := (ps_pb c n hc0 _ _ _ _ _ _ hr1 (by omega) (by omega)).1
    obtain ⟨x2, p2, j2, hm2, hP2, hN2, hp2, hj2, rfl⟩ := H9
    refine a_istoren_1 (pc := 6) dX3_readLine_6 (by decide) (by first | rfl | trivial) ?_
    refine a_aloadn_0 (pc := 7) dX3_readLine_7 ?_
    refine rg_29 hm2 rfl dX3_readLine_8 ?_
    refine n_if_ge (tgt := 50) dX3_readLine_11 (by decide) (by omega) ?_
    refine a_aloadn_0 (pc := 50) dX3_readLine_50 ?_
    refine rg_18 hm2 rfl dX3_readLine_51 ?_
    refine a_iconst (pc := 54) (v := (-1)) dX3_readLine_54 (by decide) ?_
    refine a_topi (oI none) rfl ?_
    refine a_iloadn_1 (pc := 55) dX3_readLine_55 ?_
    
    refine cv_X3_46 (pc := 56) rfl dX3_readLine_56 hm2.tx.1 (Nat.le_of_ble_eq_true rfl) ?_
    refine r_addLine (ce := none) (z := j2) (by omega) hz hm2 (by omega) (fun h9 hm9 => ?_)
    exact a_vret (pc := 59) dX3_readLine_59 rfl (zf hz) (k _ ⟨_, p2, hm9, hP2, by show tN x2 + 1 = _; omega, hp2, hf1⟩)
  · refine a_aloadn_0 (pc := 0) dX3_readLine_0 ?_
    refine a_iconst (pc := 1) (v := nI 0) dX3_readLine_1 (by decide) ?_
    refine a_iconst (pc := 2) (v := nI 0) dX3_readLine_2 (by decide) ?_
    refine cv_X3_42 (pc := 3) rfl dX3_readLine_3 hm.ob (Nat.le_of_ble_eq_true rfl) ?_
    refine CLk 0 d _ p 0 ez _ _ x D (by omega) (by omega) (by omega) (by omega) (by omega) hr1 hm hTD (fun h2 v2 H9 => ?_)
    have hb2 := ps_pb c n hc0 _ _ _ _ _ _ hr1 (by omega) (by omega)
    obtain ⟨hq2, -, hl2⟩ := hb2
    have hl2 := hl2 (by decide)
    obtain ⟨x2, D2, j2, hm2, hTD2, ⟨ha2, hA2⟩, hD2, hX2, hj2, hE2, rfl⟩ := H9
    refine a_istoren_1 (pc := 6) dX3_readLine_6 (by decide) (by first | rfl | trivial) ?_
    refine a_aloadn_0 (pc := 7) dX3_readLine_7 ?_
    refine rg_29 hm2 rfl dX3_readLine_8 ?_
    refine a_if_ge (pc := 11) (tgt := 50) dX3_readLine_11 (by decide) (fun c_11 => absurd c_11 (by decide)) (fun c_11 => ?_)
    refine a_aloadn_0 (pc := 14) dX3_readLine_14 ?_
    refine cv_X3_38 (pc := 15) rfl dX3_readLine_15 hm2.ob (Nat.le_of_ble_eq_true rfl) ?_
    refine r_next (by omega) hz hm2 hb (by omega) ?_
    refine a_bipush (pc := 18) (v := nI 63) dX3_readLine_18 (by decide) ?_
    refine c_icmp_ne (tgt := 50) hb (by decide) (by decide) dX3_readLine_20 (by decide) (fun c_20 => ?_) (fun c_20 => by omega)
    refine a_aloadn_0 (pc := 50) dX3_readLine_50 ?_
    refine rg_18 hm2 rfl dX3_readLine_51 ?_
    refine a_iconst (pc := 54) (v := (-1)) dX3_readLine_54 (by decide) ?_
    refine a_topi (oI none) rfl ?_
    refine a_iloadn_1 (pc := 55) dX3_readLine_55 ?_
    
    refine cv_X3_46 (pc := 56) rfl dX3_readLine_56 hm2.tx.1 (Nat.le_of_ble_eq_true rfl) ?_
    refine r_addLine (ce := none) (z := j2) (by omega) hz hm2 (by omega) (fun h9 hm9 => ?_)
    exact a_vret (pc := 59) dX3_readLine_59 rfl (zf hz) (k _ ⟨_, D2, hm9, hTD2, ⟨ha2, hA2⟩, by rw [← hE2]; exact TLn_add (ce := none) (TLn_ext hTL ha2 hD2 hX2) hj2 (fun i q => by cases q), by show tN x2 + 1 = _; rw [hX2.1], hq2, hl2⟩)
  · refine a_aloadn_0 (pc := 0) dX3_readLine_0 ?_
    refine a_iconst (pc := 1) (v := nI 0) dX3_readLine_1 (by decide) ?_
    refine a_iconst (pc := 2) (v := nI 0) dX3_readLine_2 (by decide) ?_
    refine cv_X3_42 (pc := 3) rfl dX3_readLine_3 hm.ob (Nat.le_of_ble_eq_true rfl) ?_
    refine CLk 0 d _ p 0 ez _ _ x D (by omega) (by omega) (by omega) (by omega) (by omega) hr1 hm hTD (fun h2 v2 H9 => ?_)
    have hb2 := ps_pb c n hc0 _ _ _ _ _ _ hr1 (by omega) (by omega)
    obtain ⟨hq2, -, hl2⟩ := hb2
    have hl2 := hl2 (by decide)
    obtain ⟨x2, D2, j2, hm2, hTD2, ⟨ha2, hA2⟩, hD2, hX2, hj2, hE2, rfl⟩ := H9
    refine a_istoren_1 (pc := 6) dX3_readLine_6 (by decide) (by first | rfl | trivial) ?_
    refine a_aloadn_0 (pc := 7) dX3_readLine_7 ?_
    refine rg_29 hm2 rfl dX3_readLine_8 ?_
    refine a_if_ge (pc := 11) (tgt := 50) dX3_readLine_11 (by decide) (fun c_11 => absurd c_11 (by decide)) (fun c_11 => ?_)
    refine a_aloadn_0 (pc := 14) dX3_readLine_14 ?_
    refine cv_X3_38 (pc := 15) rfl dX3_readLine_15 hm2.ob (Nat.le_of_ble_eq_true rfl) ?_
    refine r_next (by omega) hz hm2 hb (by omega) ?_
    have hqn := ch_lt hc0 (show 0 < c q by omega)
    refine a_bipush (pc := 18) (v := nI 63) dX3_readLine_18 (by decide) ?_
    refine c_icmp_ne (tgt := 50) hb (by decide) (by decide) dX3_readLine_20 (by decide) (fun c_20 => by omega) (fun c_20 => ?_)
    refine a_aloadn_0 (pc := 23) dX3_readLine_23 ?_
    refine a_dup (pc := 24) dX3_readLine_24 rfl ?_
    refine rg_26 hm2 rfl dX3_readLine_25 ?_
    refine a_iconst (pc := 28) (v := nI 1) dX3_readLine_28 (by decide) ?_
    refine n_iadd dX3_readLine_29 ?_
    refine rp_26 (v := q + 1) hm2 rfl dX3_readLine_30 (fun h21 hm21 => ?_)
    refine a_aloadn_0 (pc := 33) dX3_readLine_33 ?_
    refine rg_18 hm21 rfl dX3_readLine_34 ?_
    refine a_iloadn_1 (pc := 37) dX3_readLine_37 ?_
    refine a_topi (oI (some j2)) rfl ?_
    refine a_aloadn_0 (pc := 38) dX3_readLine_38 ?_
    refine a_iconst (pc := 39) (v := nI 0) dX3_readLine_39 (by decide) ?_
    refine a_iconst (pc := 40) (v := nI 0) dX3_readLine_40 (by decide) ?_
    refine cv_X3_42 (pc := 41) rfl dX3_readLine_41 hm21.ob (Nat.le_of_ble_eq_true rfl) ?_
    refine CLk 0 d _ (q + 1) 0 ez _ _ x2 D2 (by omega) (by omega) (by omega) (by omega) (by omega) hr2 hm21 hTD2 (fun h3 v3 H9 => ?_)
    have hf1 := (ps_pb c n hc0 _ _ _ _ _ _ hr2 (by omega) (by omega)).1
    obtain ⟨x3, p3, j3, hm3, hP3, hN3, hp3, hj3, rfl⟩ := H9
    
    refine cv_X3_46 (pc := 44) rfl dX3_readLine_44 hm3.tx.1 (Nat.le_of_ble_eq_true rfl) ?_
    refine r_addLine (ce := some j2) (z := j3) (by omega) hz hm3 (by omega) (fun h9 hm9 => ?_)
    refine a_goto (pc := 47) (tgt := 59) dX3_readLine_47 (by decide) ?_
    exact a_vret (pc := 59) dX3_readLine_59 rfl (zf hz) (k _ ⟨_, p3, hm9, hP3, by show tN x3 + 1 = _; rw [hN3, hX2.1], hp3, hf1⟩)
  · refine a_aloadn_0 (pc := 0) dX3_readLine_0 ?_
    refine a_iconst (pc := 1) (v := nI 0) dX3_readLine_1 (by decide) ?_
    refine a_iconst (pc := 2) (v := nI 0) dX3_readLine_2 (by decide) ?_
    refine cv_X3_42 (pc := 3) rfl dX3_readLine_3 hm.ob (Nat.le_of_ble_eq_true rfl) ?_
    refine CLk 0 d _ p 0 ez _ _ x D (by omega) (by omega) (by omega) (by omega) (by omega) hr1 hm hTD (fun h2 v2 H9 => ?_)
    have hb2 := ps_pb c n hc0 _ _ _ _ _ _ hr1 (by omega) (by omega)
    obtain ⟨hq2, -, hl2⟩ := hb2
    have hl2 := hl2 (by decide)
    obtain ⟨x2, D2, j2, hm2, hTD2, ⟨ha2, hA2⟩, hD2, hX2, hj2, hE2, rfl⟩ := H9
    refine a_istoren_1 (pc := 6) dX3_readLine_6 (by decide) (by first | rfl | trivial) ?_
    refine a_aloadn_0 (pc := 7) dX3_readLine_7 ?_
    refine rg_29 hm2 rfl dX3_readLine_8 ?_
    refine a_if_ge (pc := 11) (tgt := 50) dX3_readLine_11 (by decide) (fun c_11 => absurd c_11 (by decide)) (fun c_11 => ?_)
    refine a_aloadn_0 (pc := 14) dX3_readLine_14 ?_
    refine cv_X3_38 (pc := 15) rfl dX3_readLine_15 hm2.ob (Nat.le_of_ble_eq_true rfl) ?_
    refine r_next (by omega) hz hm2 hb (by omega) ?_
    have hqn := ch_lt hc0 (show 0 < c q by omega)
    refine a_bipush (pc := 18) (v := nI 63) dX3_readLine_18 (by decide) ?_
    refine c_icmp_ne (tgt := 50) hb (by decide) (by decide) dX3_readLine_20 (by decide) (fun c_20 => by omega) (fun c_20 => ?_)
    refine a_aloadn_0 (pc := 23) dX3_readLine_23 ?_
    refine a_dup (pc := 24) dX3_readLine_24 rfl ?_
    refine rg_26 hm2 rfl dX3_readLine_25 ?_
    refine a_iconst (pc := 28) (v := nI 1) dX3_readLine_28 (by decide) ?_
    refine n_iadd dX3_readLine_29 ?_
    refine rp_26 (v := q + 1) hm2 rfl dX3_readLine_30 (fun h21 hm21 => ?_)
    refine a_aloadn_0 (pc := 33) dX3_readLine_33 ?_
    refine rg_18 hm21 rfl dX3_readLine_34 ?_
    refine a_iloadn_1 (pc := 37) dX3_readLine_37 ?_
    refine a_topi (oI (some j2)) rfl ?_
    refine a_aloadn_0 (pc := 38) dX3_readLine_38 ?_
    refine a_iconst (pc := 39) (v := nI 0) dX3_readLine_39 (by decide) ?_
    refine a_iconst (pc := 40) (v := nI 0) dX3_readLine_40 (by decide) ?_
    refine cv_X3_42 (pc := 41) rfl dX3_readLine_41 hm21.ob (Nat.le_of_ble_eq_true rfl) ?_
    refine CLk 0 d _ (q + 1) 0 ez _ _ x2 D2 (by omega) (by omega) (by omega) (by omega) (by omega) hr2 hm21 hTD2 (fun h3 v3 H9 => ?_)
    have hb3 := ps_pb c n hc0 _ _ _ _ _ _ hr2 (by omega) (by omega)
    obtain ⟨hq3, -, hl3⟩ := hb3
    have hl3 := hl3 (by decide)
    obtain ⟨x3, D3, j3, hm3, hTD3, ⟨ha3, hA3⟩, hD3, hX3, hj3, hE3, rfl⟩ := H9
    
    refine cv_X3_46 (pc := 44) rfl dX3_readLine_44 hm3.tx.1 (Nat.le_of_ble_eq_true rfl) ?_
    refine r_addLine (ce := some j2) (z := j3) (by omega) hz hm3 (by omega) (fun h9 hm9 => ?_)
    refine a_goto (pc := 47) (tgt := 59) dX3_readLine_47 (by decide) ?_
    exact a_vret (pc := 59) dX3_readLine_59 rfl (zf hz) (k _ ⟨_, D3, hm9, hTD3, ⟨Nat.le_trans ha2 ha3, by show tP x3 + p ≤ tP x + q2; omega⟩, by rw [← hE3, ← hE2, ← hD3 j2 hj2]; exact TLn_add (ce := some j2) (TLn_ext (TLn_ext hTL ha2 hD2 hX2) ha3 hD3 hX3) hj3 (fun i q => by cases q; omega), by show tN x3 + 1 = _; rw [hX3.1, hX2.1], hq3, by omega⟩)
set_option maxRecDepth 100000 in
set_option maxHeartbeats 4000000 in
theorem r_read {G : Cx} {d t n p : Nat} {h h0 : List va_E} {b : Nat → Nat} {f : Int32} {x : Tx} {Q : Option Value → List va_E → Prop} {c : Nat → Nat} (hd : 70 ≤ d) (hz : gz G = false) (hb : BYC b n c) (hm : RS G h0 h t b n p f x) (kf : ∀ f, txt c n = .inl f → ∀ h1 p1 x1, RS G h0 h1 t b n p1 (nI f) x1 → f ≤ n → Q (some (.int (nI f))) h1) (ks : ∀ A, txt c n = .inr A → ∀ h1 p1 x1 D1, RS G h0 h1 t b n p1 (-1) x1 → TD x1 D1 → TLn x1 D1 A → tP x1 ≤ 126 → tN x1 ≤ 61 → Q (some (.int (-1))) h1) : AM G yX3_read cX3_read 2 (some .int) d 0 0 [.ref (gB G + 16)] h Q := by
  obtain ⟨d, rfl, he⟩ := dpos hd
  refine AM.of [some (.ref (gB G + 16)), none] pnX3 (Nat.le_of_ble_eq_true rfl) (by simp [lsub, lvI, Value.category]) ?_
  obtain ⟨hn, hc0, h255, hbc⟩ := id hb
  have hT := txt_eq hc0 hn
  obtain ⟨r, hr⟩ : ∃ r, r = txt c n := ⟨_, rfl⟩
  rw [← hr] at kf ks hT
  have fx : ∀ (h1 : List va_E) (f p1 i : Nat) (x1 : Tx), f ≤ n → i < 1000 → r = .inl f → RS G h0 h1 t b n p1 (nI f) x1 → AW G yX3_read cX3_read 2 (some .int) (rmx (d + 1) 0 0) (ZQ G 0 0 (h.length + 0) Q) 0 0 23 [some (.ref (gB G + 16)), some (.int (nI (i)))] [] h1 := by
    intro h1 f p1 i x1 hf1 hi1 hr1 hm1
    refine a_iloadn_1 (pc := 23) dX3_read_23 ?_
    refine a_bipush (pc := 24) (v := nI 120) dX3_read_24 (by decide) ?_
    refine n_icmp_ge (tgt := 87) dX3_read_26 (by decide) (by omega) (by decide) (fun c_26 => ?_) (fun c_26 => ?_)
    · refine a_aloadn_0 (pc := 87) dX3_read_87 ?_
      refine rg_29 hm1 rfl dX3_read_88 ?_
      exact a_iret (pc := 91) dX3_read_91 rfl (zf hz) (kf f hr1 _ _ _ hm1 hf1)
    · refine a_aloadn_0 (pc := 29) dX3_read_29 ?_
      refine rg_29 hm1 rfl dX3_read_30 ?_
      refine n_if_ge (tgt := 87) dX3_read_33 (by decide) (by omega) ?_
      refine a_aloadn_0 (pc := 87) dX3_read_87 ?_
      refine rg_29 hm1 rfl dX3_read_88 ?_
      exact a_iret (pc := 91) dX3_read_91 rfl (zf hz) (kf f hr1 _ _ _ hm1 hf1)
  have lp : ∀ (j : Nat) (h1 : List va_E) (q : Nat) (A : An) (x1 : Tx) (D1 : Nat → Ex) (i : Nat), PN c n j q A r → RS G h0 h1 t b n q (-1) x1 → TD x1 D1 → TLn x1 D1 A → q ≤ n → tP x1 ≤ 6 + q → 2 * tN x1 ≤ q + 1 → i + 1 = tN x1 → AW G yX3_read cX3_read 2 (some .int) (rmx (d + 1) 0 0) (ZQ G 0 0 (h.length + 0) Q) 0 0 23 [some (.ref (gB G + 16)), some (.int (nI (i)))] [] h1 := by
    intro j
    induction j with
    | zero =>
      intro h1 q A x1 D1 i H hm1 hTD1 hTL1 hq hP1 hN1 hi1
      rcases H with ⟨h59, H⟩ | ⟨h59, ⟨hqn, rfl⟩ | ⟨hqn, rfl⟩⟩
      · exact (pl_0 H).elim
      · refine a_iloadn_1 (pc := 23) dX3_read_23 ?_
        refine a_bipush (pc := 24) (v := nI 120) dX3_read_24 (by decide) ?_
        refine n_icmp_ge (tgt := 87) dX3_read_26 (by decide) (by omega) (by decide) (fun c_26 => by omega) (fun c_26 => ?_)
        refine a_aloadn_0 (pc := 29) dX3_read_29 ?_
        refine rg_29 hm1 rfl dX3_read_30 ?_
        refine a_if_ge (pc := 33) (tgt := 87) dX3_read_33 (by decide) (fun c_33 => absurd c_33 (by decide)) (fun c_33 => ?_)
        refine a_aloadn_0 (pc := 36) dX3_read_36 ?_
        refine rg_26 hm1 rfl dX3_read_37 ?_
        refine a_aloadn_0 (pc := 40) dX3_read_40 ?_
        refine rg_22 hm1 rfl dX3_read_41 ?_
        refine n_icmp_ge (tgt := 87) dX3_read_44 (by decide) (by omega) (by omega) (fun c_44 => by omega) (fun c_44 => ?_)
        refine a_aloadn_0 (pc := 47) dX3_read_47 ?_
        refine cv_X3_38 (pc := 48) rfl dX3_read_48 hm1.ob (Nat.le_of_ble_eq_true rfl) ?_
        refine r_next (by omega) hz hm1 hb (by omega) ?_
        refine a_bipush (pc := 51) (v := nI 59) dX3_read_51 (by decide) ?_
        refine c_icmp_ne (tgt := 73) hb (by decide) (by decide) dX3_read_53 (by decide) (fun c_53 => ?_) (fun c_53 => by omega)
        refine a_aloadn_0 (pc := 73) dX3_read_73 ?_
        refine a_aloadn_0 (pc := 74) dX3_read_74 ?_
        refine rg_26 hm1 rfl dX3_read_75 ?_
        refine rp_29 (v := nI (q)) hm1 rfl dX3_read_78 (fun h21 hm21 => ?_)
        refine a_iinc_1 (pc := 81) (v := nI (i + 1)) dX3_read_81 (nI_add _ _) (by decide) (by first | rfl | trivial) ?_
        refine a_goto (pc := 84) (tgt := 23) dX3_read_84 (by decide) ?_
        exact fx _ q q (i + 1) x1 (by omega) (by omega) rfl hm21
      · refine a_iloadn_1 (pc := 23) dX3_read_23 ?_
        refine a_bipush (pc := 24) (v := nI 120) dX3_read_24 (by decide) ?_
        refine n_icmp_ge (tgt := 87) dX3_read_26 (by decide) (by omega) (by decide) (fun c_26 => by omega) (fun c_26 => ?_)
        refine a_aloadn_0 (pc := 29) dX3_read_29 ?_
        refine rg_29 hm1 rfl dX3_read_30 ?_
        refine a_if_ge (pc := 33) (tgt := 87) dX3_read_33 (by decide) (fun c_33 => absurd c_33 (by decide)) (fun c_33 => ?_)
        refine a_aloadn_0 (pc := 36) dX3_read_36 ?_
        refine rg_26 hm1 rfl dX3_read_37 ?_
        refine a_aloadn_0 (pc := 40) dX3_read_40 ?_
        refine rg_22 hm1 rfl dX3_read_41 ?_
        refine n_icmp_ge (tgt := 87) dX3_read_44 (by decide) (by omega) (by omega) (fun c_44 => ?_) (fun c_44 => by omega)
        refine a_aloadn_0 (pc := 87) dX3_read_87 ?_
        refine rg_29 hm1 rfl dX3_read_88 ?_
        exact a_iret (pc := 91) dX3_read_91 rfl (zf hz) (ks A rfl _ _ _ _ hm1 hTD1 hTL1 (by omega) (by omega))
    | succ j ih =>
      intro h1 q A x1 D1 i H hm1 hTD1 hTL1 hq hP1 hN1 hi1
      rcases H with ⟨h59, H⟩ | ⟨h59, ⟨hqn, rfl⟩ | ⟨hqn, rfl⟩⟩
      · have hqn := ch_lt hc0 (show 0 < c q by omega)
        rcases pl_ln H with ⟨f, hl1, rfl⟩ | ⟨q2, ce, e, hl1, H⟩
        · refine a_iloadn_1 (pc := 23) dX3_read_23 ?_
          refine a_bipush (pc := 24) (v := nI 120) dX3_read_24 (by decide) ?_
          refine n_icmp_ge (tgt := 87) dX3_read_26 (by decide) (by omega) (by decide) (fun c_26 => by omega) (fun c_26 => ?_)
          refine a_aloadn_0 (pc := 29) dX3_read_29 ?_
          refine rg_29 hm1 rfl dX3_read_30 ?_
          refine a_if_ge (pc := 33) (tgt := 87) dX3_read_33 (by decide) (fun c_33 => absurd c_33 (by decide)) (fun c_33 => ?_)
          refine a_aloadn_0 (pc := 36) dX3_read_36 ?_
          refine rg_26 hm1 rfl dX3_read_37 ?_
          refine a_aloadn_0 (pc := 40) dX3_read_40 ?_
          refine rg_22 hm1 rfl dX3_read_41 ?_
          refine n_icmp_ge (tgt := 87) dX3_read_44 (by decide) (by omega) (by omega) (fun c_44 => by omega) (fun c_44 => ?_)
          refine a_aloadn_0 (pc := 47) dX3_read_47 ?_
          refine cv_X3_38 (pc := 48) rfl dX3_read_48 hm1.ob (Nat.le_of_ble_eq_true rfl) ?_
          refine r_next (by omega) hz hm1 hb (by omega) ?_
          refine a_bipush (pc := 51) (v := nI 59) dX3_read_51 (by decide) ?_
          refine c_icmp_ne (tgt := 73) hb (by decide) (by decide) dX3_read_53 (by decide) (fun c_53 => by omega) (fun c_53 => ?_)
          refine a_aloadn_0 (pc := 56) dX3_read_56 ?_
          refine a_dup (pc := 57) dX3_read_57 rfl ?_
          refine rg_26 hm1 rfl dX3_read_58 ?_
          refine a_iconst (pc := 61) (v := nI 1) dX3_read_61 (by decide) ?_
          refine n_iadd dX3_read_62 ?_
          refine rp_26 (v := q + 1) hm1 rfl dX3_read_63 (fun h21 hm21 => ?_)
          refine a_aloadn_0 (pc := 66) dX3_read_66 ?_
          refine cv_X3_35 (pc := 67) rfl dX3_read_67 hm21.ob (Nat.le_of_ble_eq_true rfl) ?_
          refine r_readLine (by omega) hz hb (by omega) (by first | omega | exact Nat.le_refl 6) (by first | omega | exact Nat.zero_le _) hl1 hm21 hTD1 hTL1 (fun h2 H9 => ?_)
          obtain ⟨x2, p2, hm2, hP2, hN2, hp2, hf2⟩ := H9
          refine a_goto (pc := 70) (tgt := 81) dX3_read_70 (by decide) ?_
          refine a_iinc_1 (pc := 81) (v := nI (i + 1)) dX3_read_81 (nI_add _ _) (by decide) (by first | rfl | trivial) ?_
          refine a_goto (pc := 84) (tgt := 23) dX3_read_84 (by decide) ?_
          exact fx _ f p2 (i + 1) x2 hf2 (by omega) rfl hm2
        · refine a_iloadn_1 (pc := 23) dX3_read_23 ?_
          refine a_bipush (pc := 24) (v := nI 120) dX3_read_24 (by decide) ?_
          refine n_icmp_ge (tgt := 87) dX3_read_26 (by decide) (by omega) (by decide) (fun c_26 => by omega) (fun c_26 => ?_)
          refine a_aloadn_0 (pc := 29) dX3_read_29 ?_
          refine rg_29 hm1 rfl dX3_read_30 ?_
          refine a_if_ge (pc := 33) (tgt := 87) dX3_read_33 (by decide) (fun c_33 => absurd c_33 (by decide)) (fun c_33 => ?_)
          refine a_aloadn_0 (pc := 36) dX3_read_36 ?_
          refine rg_26 hm1 rfl dX3_read_37 ?_
          refine a_aloadn_0 (pc := 40) dX3_read_40 ?_
          refine rg_22 hm1 rfl dX3_read_41 ?_
          refine n_icmp_ge (tgt := 87) dX3_read_44 (by decide) (by omega) (by omega) (fun c_44 => by omega) (fun c_44 => ?_)
          refine a_aloadn_0 (pc := 47) dX3_read_47 ?_
          refine cv_X3_38 (pc := 48) rfl dX3_read_48 hm1.ob (Nat.le_of_ble_eq_true rfl) ?_
          refine r_next (by omega) hz hm1 hb (by omega) ?_
          refine a_bipush (pc := 51) (v := nI 59) dX3_read_51 (by decide) ?_
          refine c_icmp_ne (tgt := 73) hb (by decide) (by decide) dX3_read_53 (by decide) (fun c_53 => by omega) (fun c_53 => ?_)
          refine a_aloadn_0 (pc := 56) dX3_read_56 ?_
          refine a_dup (pc := 57) dX3_read_57 rfl ?_
          refine rg_26 hm1 rfl dX3_read_58 ?_
          refine a_iconst (pc := 61) (v := nI 1) dX3_read_61 (by decide) ?_
          refine n_iadd dX3_read_62 ?_
          refine rp_26 (v := q + 1) hm1 rfl dX3_read_63 (fun h21 hm21 => ?_)
          refine a_aloadn_0 (pc := 66) dX3_read_66 ?_
          refine cv_X3_35 (pc := 67) rfl dX3_read_67 hm21.ob (Nat.le_of_ble_eq_true rfl) ?_
          refine r_readLine (by omega) hz hb (by omega) (by first | omega | exact Nat.le_refl 6) (by first | omega | exact Nat.zero_le _) hl1 hm21 hTD1 hTL1 (fun h2 H9 => ?_)
          obtain ⟨x2, D2, hm2, hTD2, ⟨ha2, hA2⟩, hTL2, hN2, hq2, hl2⟩ := H9
          refine a_goto (pc := 70) (tgt := 81) dX3_read_70 (by decide) ?_
          refine a_iinc_1 (pc := 81) (v := nI (i + 1)) dX3_read_81 (nI_add _ _) (by decide) (by first | rfl | trivial) ?_
          refine a_goto (pc := 84) (tgt := 23) dX3_read_84 (by decide) ?_
          exact ih _ q2 _ x2 D2 (i + 1) H hm2 hTD2 hTL2 hq2 (by omega) (by omega) (by omega)
      · refine a_iloadn_1 (pc := 23) dX3_read_23 ?_
        refine a_bipush (pc := 24) (v := nI 120) dX3_read_24 (by decide) ?_
        refine n_icmp_ge (tgt := 87) dX3_read_26 (by decide) (by omega) (by decide) (fun c_26 => by omega) (fun c_26 => ?_)
        refine a_aloadn_0 (pc := 29) dX3_read_29 ?_
        refine rg_29 hm1 rfl dX3_read_30 ?_
        refine a_if_ge (pc := 33) (tgt := 87) dX3_read_33 (by decide) (fun c_33 => absurd c_33 (by decide)) (fun c_33 => ?_)
        refine a_aloadn_0 (pc := 36) dX3_read_36 ?_
        refine rg_26 hm1 rfl dX3_read_37 ?_
        refine a_aloadn_0 (pc := 40) dX3_read_40 ?_
        refine rg_22 hm1 rfl dX3_read_41 ?_
        refine n_icmp_ge (tgt := 87) dX3_read_44 (by decide) (by omega) (by omega) (fun c_44 => by omega) (fun c_44 => ?_)
        refine a_aloadn_0 (pc := 47) dX3_read_47 ?_
        refine cv_X3_38 (pc := 48) rfl dX3_read_48 hm1.ob (Nat.le_of_ble_eq_true rfl) ?_
        refine r_next (by omega) hz hm1 hb (by omega) ?_
        refine a_bipush (pc := 51) (v := nI 59) dX3_read_51 (by decide) ?_
        refine c_icmp_ne (tgt := 73) hb (by decide) (by decide) dX3_read_53 (by decide) (fun c_53 => ?_) (fun c_53 => by omega)
        refine a_aloadn_0 (pc := 73) dX3_read_73 ?_
        refine a_aloadn_0 (pc := 74) dX3_read_74 ?_
        refine rg_26 hm1 rfl dX3_read_75 ?_
        refine rp_29 (v := nI (q)) hm1 rfl dX3_read_78 (fun h21 hm21 => ?_)
        refine a_iinc_1 (pc := 81) (v := nI (i + 1)) dX3_read_81 (nI_add _ _) (by decide) (by first | rfl | trivial) ?_
        refine a_goto (pc := 84) (tgt := 23) dX3_read_84 (by decide) ?_
        exact fx _ q q (i + 1) x1 (by omega) (by omega) rfl hm21
      · refine a_iloadn_1 (pc := 23) dX3_read_23 ?_
        refine a_bipush (pc := 24) (v := nI 120) dX3_read_24 (by decide) ?_
        refine n_icmp_ge (tgt := 87) dX3_read_26 (by decide) (by omega) (by decide) (fun c_26 => by omega) (fun c_26 => ?_)
        refine a_aloadn_0 (pc := 29) dX3_read_29 ?_
        refine rg_29 hm1 rfl dX3_read_30 ?_
        refine a_if_ge (pc := 33) (tgt := 87) dX3_read_33 (by decide) (fun c_33 => absurd c_33 (by decide)) (fun c_33 => ?_)
        refine a_aloadn_0 (pc := 36) dX3_read_36 ?_
        refine rg_26 hm1 rfl dX3_read_37 ?_
        refine a_aloadn_0 (pc := 40) dX3_read_40 ?_
        refine rg_22 hm1 rfl dX3_read_41 ?_
        refine n_icmp_ge (tgt := 87) dX3_read_44 (by decide) (by omega) (by omega) (fun c_44 => ?_) (fun c_44 => by omega)
        refine a_aloadn_0 (pc := 87) dX3_read_87 ?_
        refine rg_29 hm1 rfl dX3_read_88 ?_
        exact a_iret (pc := 91) dX3_read_91 rfl (zf hz) (ks A rfl _ _ _ _ hm1 hTD1 hTL1 (by omega) (by omega))
  rcases pl_ln (k := 199) hT with ⟨f2, hl1, hr2⟩ | ⟨q2, ce, e, hl1, H⟩
  · refine a_aloadn_0 (pc := 0) dX3_read_0 ?_
    refine a_iconst (pc := 1) (v := nI 0) dX3_read_1 (by decide) ?_
    refine rp_26 (v := 0) hm rfl dX3_read_2 (fun h21 hm21 => ?_)
    refine a_aloadn_0 (pc := 5) dX3_read_5 ?_
    refine a_iconst (pc := 6) (v := (-1)) dX3_read_6 (by decide) ?_
    refine rp_29 (v := ((-1))) hm21 rfl dX3_read_7 (fun h22 hm22 => ?_)
    refine a_aloadn_0 (pc := 10) dX3_read_10 ?_
    refine rg_18 hm22 rfl dX3_read_11 ?_
    refine cv_X3_32 (pc := 14) rfl dX3_read_14 hm22.tx.1 (Nat.le_of_ble_eq_true rfl) ?_
    refine r_clear (by omega) hz hm22 (fun h5 hm5 => ?_)
    refine a_aloadn_0 (pc := 17) dX3_read_17 ?_
    refine cv_X3_35 (pc := 18) rfl dX3_read_18 hm5.ob (Nat.le_of_ble_eq_true rfl) ?_
    refine r_readLine (by omega) hz hb (by omega) (by first | omega | exact Nat.le_refl 6) (by first | omega | exact Nat.zero_le _) hl1 hm5 (TD_0 x) (TLn_0 x _) (fun h2 H9 => ?_)
    obtain ⟨x2, p2, hm2, hP2, hN2, hp2, hf2⟩ := H9
    refine a_iconst (pc := 21) (v := nI 0) dX3_read_21 (by decide) ?_
    refine a_istoren_1 (pc := 22) dX3_read_22 (by decide) (by first | rfl | trivial) ?_
    exact fx _ f2 p2 0 x2 hf2 (by omega) hr2 hm2
  · refine a_aloadn_0 (pc := 0) dX3_read_0 ?_
    refine a_iconst (pc := 1) (v := nI 0) dX3_read_1 (by decide) ?_
    refine rp_26 (v := 0) hm rfl dX3_read_2 (fun h21 hm21 => ?_)
    refine a_aloadn_0 (pc := 5) dX3_read_5 ?_
    refine a_iconst (pc := 6) (v := (-1)) dX3_read_6 (by decide) ?_
    refine rp_29 (v := ((-1))) hm21 rfl dX3_read_7 (fun h22 hm22 => ?_)
    refine a_aloadn_0 (pc := 10) dX3_read_10 ?_
    refine rg_18 hm22 rfl dX3_read_11 ?_
    refine cv_X3_32 (pc := 14) rfl dX3_read_14 hm22.tx.1 (Nat.le_of_ble_eq_true rfl) ?_
    refine r_clear (by omega) hz hm22 (fun h5 hm5 => ?_)
    refine a_aloadn_0 (pc := 17) dX3_read_17 ?_
    refine cv_X3_35 (pc := 18) rfl dX3_read_18 hm5.ob (Nat.le_of_ble_eq_true rfl) ?_
    refine r_readLine (by omega) hz hb (by omega) (by first | omega | exact Nat.le_refl 6) (by first | omega | exact Nat.zero_le _) hl1 hm5 (TD_0 x) (TLn_0 x _) (fun h2 H9 => ?_)
    obtain ⟨x2, D2, hm2, hTD2, ⟨ha2, hA2⟩, hTL2, hN2, hq2, hl2⟩ := H9
    refine a_iconst (pc := 21) (v := nI 0) dX3_read_21 (by decide) ?_
    refine a_istoren_1 (pc := 22) dX3_read_22 (by decide) (by first | rfl | trivial) ?_
    exact lp 199 _ q2 _ x2 D2 0 H hm2 hTD2 hTL2 hq2 (by have : tP x2 + 0 ≤ 6 + q2 := hA2; omega) (by have : tN x2 = 0 + 1 := hN2; omega) (by have : tN x2 = 0 + 1 := hN2; omega)
theorem runT_D {x : Tx} {D : Nat → Ex} (H : TD x D) (hok : okT x) (n0 n1 n2 n3 n4 n5 : Int32) (nm : En) (hnm : nm 0 = n0 ∧ nm 1 = n1 ∧ nm 2 = n2 ∧ nm 3 = n3 ∧ nm 4 = n4 ∧ nm 5 = n5) : ∀ k, 6 + k ≤ tP x → ∀ i, i < 6 + k → runT x (nmV x n0 n1 n2 n3 n4 n5) k i = D i nm
  | 0, _, i, hi => by
    obtain ⟨a0, a1, a2, a3, a4, a5⟩ := hnm
    rw [H.2.1 i hi]
    rcases (show i = 0 ∨ i = 1 ∨ i = 2 ∨ i = 3 ∨ i = 4 ∨ i = 5 by omega) with rfl | rfl | rfl | rfl | rfl | rfl
    · exact a0.symm
    · exact a1.symm
    · exact a2.symm
    · exact a3.symm
    · exact a4.symm
    · exact a5.symm
  | k + 1, hk, i, hi => by
    have ih := runT_D H hok n0 n1 n2 n3 n4 n5 nm hnm k (by omega)
    rw [runT]
    rcases H.2.2 (6 + k) (by omega) (by omega) with ⟨g1, g2⟩ | ⟨g1, g2, g3, g4⟩
    · rw [if_pos g1]
      by_cases e : i = 6 + k
      · subst e
        rw [runT_num x _ k _ (by omega) g1, g2]
        unfold nmV
        split <;> first | omega | rfl
      · exact ih i (by omega)
    · have g48 : ¬ tS x (6 + k) = 48 := fun q => by rw [q] at g1; exact absurd g1 (by decide)
      rw [if_neg g48]
      unfold upd
      by_cases e : i = 6 + k
      · rw [if_pos e, e, g4, ih _ g2, ih _ g3]
      · rw [if_neg e]; exact ih i (by omega)
theorem linT_D {x : Tx} {D : Nat → Ex} {w : Nat → Int32} {nm : En} (hw : ∀ i, i < tP x → w i = D i nm) (hl : ∀ i, i < tN x → tD x i < tP x ∧ ∀ j, tF x i = some j → j < tP x) : ∀ n i, i + n = tN x → (∀ v, lineR x D nm i = some v → lineR x D nm (i + n) = some v) ∧ (lineR x D nm i = none → linT x w i n = (lineR x D nm (i + n)).getD 0)
  | 0, i, _ => ⟨fun _ h => h, fun h => by rw [Nat.add_zero, h]; rfl⟩
  | n + 1, i, hi => by
    obtain ⟨h1, h2⟩ := linT_D hw hl n (i + 1) (by omega)
    obtain ⟨g1, g2⟩ := hl i (by omega)
    rw [show i + (n + 1) = i + 1 + n by omega]
    refine ⟨fun v hv => h1 v (by rw [lineR, hv]), fun hn => ?_⟩
    rw [linT]
    have hs : lineR x D nm (i + 1) = (match tF x i with
      | none => some (D (tD x i) nm)
      | some j => if D j nm = 0 then none else some (D (tD x i) nm)) := by rw [lineR, hn]
    cases hF : tF x i with
    | none =>
      rw [hF] at hs
      rw [h1 _ hs, hw _ g1]; rfl
    | some j =>
      rw [hF] at hs
      dsimp only at hs ⊢
      rw [hw j (g2 j hF)]
      by_cases e : D j nm = 0
      · rw [if_pos e] at hs ⊢
        exact h2 hs
      · rw [if_neg e] at hs ⊢
        rw [h1 _ hs, hw _ g1]; rfl
theorem text_means {x : Tx} {D : Nat → Ex} {A : An} (H : TD x D) (L : TLn x D A) (hP : tP x ≤ 126) (hN : tN x ≤ 61) : okT x ∧ ∀ (n0 n1 n2 n3 n4 n5 : Int32) (nm : En), (nm 0 = n0 ∧ nm 1 = n1 ∧ nm 2 = n2 ∧ nm 3 = n3 ∧ nm 4 = n4 ∧ nm 5 = n5) → evalT x n0 n1 n2 n3 n4 n5 = (A nm).getD 0 := by
  have hok : okT x := ⟨H.1, hP, hN, fun i h6 hi => by
    rcases H.2.2 i h6 hi with ⟨g, -⟩ | ⟨g1, g2, g3, -⟩
    · exact Or.inl g
    · exact Or.inr ⟨g1, g2, g3⟩, L.2⟩
  refine ⟨hok, fun n0 n1 n2 n3 n4 n5 nm hnm => ?_⟩
  unfold evalT
  have hr := runT_D H hok n0 n1 n2 n3 n4 n5 nm hnm (tP x - 6) (by have := H.1; omega)
  have := (linT_D (D := D) (nm := nm) (fun i hi => hr i (by have := H.1; omega)) L.2 (tN x) 0 (Nat.zero_add _)).2 rfl
  rw [this, Nat.zero_add, L.1 nm]
