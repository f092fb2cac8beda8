/-! THE REFERENCE reads a text -/
/-- where the bytes come from -/
def BYT (b : MB) (bs : Int32) (n : Nat) (c : Nat → Nat) : Prop := n ≤ 120 ∧ (∀ i, n ≤ i → c i = 0) ∧ (∀ i, c i ≤ 255) ∧ ((bs = -1 ∧ ∀ i, i < n → b.2.1.1 i = c i) ∨ (bs = 0 ∧ ∀ i, i < n → b.2.1.2.2.1 i = c i))
theorem nm_out : ∀ x : Fin 256, nmO x.val = none → Op.lookupswitch.offset #[(99, 65), (100, 59), (103, 63), (104, 69), (108, 61), (119, 67)].toList 71 (nI x.val).toInt = 71 := by decide +kernel
set_option maxRecDepth 100000 in
set_option maxHeartbeats 4000000 in
theorem m_byteAt {G : Cx} {d : Nat} {h h0 : List va_E} {b : MB} {t : MT} {o : MO} {bs : Int32} {n p op : Nat} {nms c : Nat → Nat} {Q : Option Value → List va_E → Prop} {f : Int32} (hd : 1 ≤ d) (hz : gz G = false) (hb : BYT b bs n c) (hp9 : p < 1000) (hm : MS G h0 h (b, (bs, p, n, f, op, nms), t, o)) (k : Q (some (.int (nI (c p)))) h) : AM G yX12_byteAt cX12_byteAt 1 (some .int) d 0 0 [.ref (gB G + 80)] h Q := by
  obtain ⟨d, rfl, he⟩ := dpos hd
  refine AM.of [some (.ref (gB G + 80))] pnX12 (Nat.le_of_ble_eq_true rfl) (by simp [lsub, lvI, Value.category]) ?_
  obtain ⟨hn, hc, h255, ⟨rfl, hb⟩ | ⟨rfl, hb⟩⟩ := hb
  · refine a_aloadn_0 (pc := 0) dX12_byteAt_0 ?_
    refine mg_138 (x := p) hm rfl dX12_byteAt_1 rfl ?_
    refine a_aloadn_0 (pc := 4) dX12_byteAt_4 ?_
    refine mg_141 (x := n) hm rfl dX12_byteAt_5 rfl ?_
    refine n_icmp_ge (tgt := 47) dX12_byteAt_8 (by decide) (by omega) (by omega) (fun hp => ?_) (fun hp => ?_)
    · refine a_iconst (pc := 47) (v := nI 0) dX12_byteAt_47 (by decide) ?_
      exact a_iret (pc := 48) dX12_byteAt_48 rfl (zf hz) (by rw [hc p hp] at k; exact k)
    · refine a_aloadn_0 (pc := 11) dX12_byteAt_11 ?_
      refine mg_144 (x := (-1)) hm rfl dX12_byteAt_12 rfl ?_
      refine a_if_ge (pc := 15) (tgt := 30) dX12_byteAt_15 (by decide) (fun c_15 => absurd c_15 (by decide)) (fun c_15 => ?_)
      refine a_aloadn_0 (pc := 18) dX12_byteAt_18 ?_
      refine mg_22 hm rfl dX12_byteAt_19 ?_
      refine a_aloadn_0 (pc := 22) dX12_byteAt_22 ?_
      refine mg_138 (x := p) hm rfl dX12_byteAt_23 rfl ?_
      refine ml_tape (x := c p) hm dX12_byteAt_26 (by omega) (hb p hp) ?_
      refine a_goto (pc := 27) (tgt := 48) dX12_byteAt_27 (by decide) ?_
      exact a_iret (pc := 48) dX12_byteAt_48 rfl (zf hz) k
  · refine a_aloadn_0 (pc := 0) dX12_byteAt_0 ?_
    refine mg_138 (x := p) hm rfl dX12_byteAt_1 rfl ?_
    refine a_aloadn_0 (pc := 4) dX12_byteAt_4 ?_
    refine mg_141 (x := n) hm rfl dX12_byteAt_5 rfl ?_
    refine n_icmp_ge (tgt := 47) dX12_byteAt_8 (by decide) (by omega) (by omega) (fun hp => ?_) (fun hp => ?_)
    · refine a_iconst (pc := 47) (v := nI 0) dX12_byteAt_47 (by decide) ?_
      exact a_iret (pc := 48) dX12_byteAt_48 rfl (zf hz) (by rw [hc p hp] at k; exact k)
    · refine a_aloadn_0 (pc := 11) dX12_byteAt_11 ?_
      refine mg_144 (x := 0) hm rfl dX12_byteAt_12 rfl ?_
      refine a_if_ge (pc := 15) (tgt := 30) dX12_byteAt_15 (by decide) (fun c_15 => ?_) (fun c_15 => absurd c_15 (by decide))
      refine a_aloadn_0 (pc := 30) dX12_byteAt_30 ?_
      refine mg_25 hm rfl dX12_byteAt_31 ?_
      refine a_aloadn_0 (pc := 34) dX12_byteAt_34 ?_
      refine mg_144 (x := 0) hm rfl dX12_byteAt_35 rfl ?_
      refine a_aloadn_0 (pc := 38) dX12_byteAt_38 ?_
      refine mg_138 (x := p) hm rfl dX12_byteAt_39 rfl ?_
      refine a_iadd (pc := 42) dX12_byteAt_42 ?_
      refine a_topi (nI (p)) (Int32.zero_add _) ?_
      refine ml_text (x := c p) hm dX12_byteAt_43 (by omega) (hb p hp) ?_
      refine a_goto (pc := 44) (tgt := 48) dX12_byteAt_44 (by decide) ?_
      exact a_iret (pc := 48) dX12_byteAt_48 rfl (zf hz) k

set_option maxRecDepth 100000 in
set_option maxHeartbeats 4000000 in
theorem m_wrong {G : Cx} {d : Nat} {h h0 : List va_E} {b : MB} {t : MT} {o : MO} {bs : Int32} {n p op : Nat} {nms c : Nat → Nat} {Q : Option Value → List va_E → Prop} (hd : 1 ≤ d) (hz : gz G = false) (hb : BYT b bs n c) (hp9 : p < 1000) (hm : MS G h0 h (b, (bs, p, n, (-1), op, nms), t, o)) (k : ∀ h1, MS G h0 h1 (b, (bs, p, n, (nI p), op, nms), t, o) → Q (some (.int 0)) h1) : AM G yX12_wrong cX12_wrong 1 (some .int) d 0 0 [.ref (gB G + 80)] h Q := by
  obtain ⟨d, rfl, he⟩ := dpos hd
  refine AM.of [some (.ref (gB G + 80))] pnX12 (Nat.le_of_ble_eq_true rfl) (by simp [lsub, lvI, Value.category]) ?_
  refine a_aloadn_0 (pc := 0) dX12_wrong_0 ?_
  refine a_aloadn_0 (pc := 1) dX12_wrong_1 ?_
  refine mg_147 (x := (-1)) hm rfl dX12_wrong_2 rfl ?_
  refine a_if_ge (pc := 5) (tgt := 15) dX12_wrong_5 (by decide) (fun c_5 => absurd c_5 (by decide)) (fun c_5 => ?_)
  refine a_aloadn_0 (pc := 8) dX12_wrong_8 ?_
  refine mg_138 (x := p) hm rfl dX12_wrong_9 rfl ?_
  refine a_goto (pc := 12) (tgt := 19) dX12_wrong_12 (by decide) ?_
  refine mp_147 (x := nI (p)) hm rfl dX12_wrong_19 (fun h1 hm1 => ?_)
  refine a_iconst (pc := 22) (v := nI 0) dX12_wrong_22 (by decide) ?_
  exact a_iret (pc := 23) dX12_wrong_23 rfl (zf hz) (k _ hm1)
set_option maxRecDepth 100000 in
set_option maxHeartbeats 4000000 in
theorem m_wrongG {G : Cx} {d : Nat} {h h0 : List va_E} {b : MB} {t : MT} {o : MO} {bs : Int32} {n p op : Nat} {nms c : Nat → Nat} {Q : Option Value → List va_E → Prop} {g : Nat} (hd : 1 ≤ d) (hz : gz G = false) (hb : BYT b bs n c) (hp9 : p < 1000) (hm : MS G h0 h (b, (bs, p, n, (nI g), op, nms), t, o)) (hg : g < 1000) (k : ∀ h1, MS G h0 h1 (b, (bs, p, n, (nI g), op, nms), t, o) → Q (some (.int 0)) h1) : AM G yX12_wrong cX12_wrong 1 (some .int) d 0 0 [.ref (gB G + 80)] h Q := by
  obtain ⟨d, rfl, he⟩ := dpos hd
  refine AM.of [some (.ref (gB G + 80))] pnX12 (Nat.le_of_ble_eq_true rfl) (by simp [lsub, lvI, Value.category]) ?_
  refine a_aloadn_0 (pc := 0) dX12_wrong_0 ?_
  refine a_aloadn_0 (pc := 1) dX12_wrong_1 ?_
  refine mg_147 (x := nI (g)) hm rfl dX12_wrong_2 rfl ?_
  refine n_if_ge (tgt := 15) dX12_wrong_5 (by decide) (by omega) ?_
  refine a_aloadn_0 (pc := 15) dX12_wrong_15 ?_
  refine mg_147 (x := nI (g)) hm rfl dX12_wrong_16 rfl ?_
  refine mp_147 (x := nI (g)) hm rfl dX12_wrong_19 (fun h1 hm1 => ?_)
  refine a_iconst (pc := 22) (v := nI 0) dX12_wrong_22 (by decide) ?_
  exact a_iret (pc := 23) dX12_wrong_23 rfl (zf hz) (k _ hm1)
set_option maxRecDepth 100000 in
set_option maxHeartbeats 4000000 in
theorem m_takes {G : Cx} {d : Nat} {h h0 : List va_E} {b : MB} {t : MT} {o : MO} {bs : Int32} {n p op : Nat} {nms c : Nat → Nat} {Q : Option Value → List va_E → Prop} (hd : 2 ≤ d) (hz : gz G = false) (hb : BYT b bs n c) (hp9 : p < 1000) (hm : MS G h0 h (b, (bs, p, n, (-1), op, nms), t, o)) {x : Nat} (hx : x ≤ 255) (kt : c p = x → ∀ h1, MS G h0 h1 (b, (bs, (p + 1), n, (-1), op, nms), t, o) → Q (some (.int (bI true))) h1) (kf : ¬ c p = x → Q (some (.int (bI false))) h) : AM G yX12_takes cX12_takes 2 (some .boolean) d 0 0 [.ref (gB G + 80), .int (nI (x))] h Q := by
  obtain ⟨d, rfl, he⟩ := dpos hd
  refine AM.of [some (.ref (gB G + 80)), some (.int (nI (x)))] pnX12 (Nat.le_of_ble_eq_true rfl) (by simp [lsub, lvI, Value.category]) ?_
  refine a_aloadn_0 (pc := 0) dX12_takes_0 ?_
  refine mg_147 (x := (-1)) hm rfl dX12_takes_1 rfl ?_
  refine a_if_ge (pc := 4) (tgt := 15) dX12_takes_4 (by decide) (fun c_4 => absurd c_4 (by decide)) (fun c_4 => ?_)
  refine a_aloadn_0 (pc := 7) dX12_takes_7 ?_
  refine cv_X12_150 (pc := 8) rfl dX12_takes_8 hm.2.2.1 (Nat.le_of_ble_eq_true rfl) ?_
  refine m_byteAt (by omega) hz hb (by omega) hm ?_
  refine a_iloadn_1 (pc := 11) dX12_takes_11 ?_
  have hcp := hb.2.2.1 p
  refine n_icmp_eq (tgt := 17) dX12_takes_12 (by decide) (by omega) (by omega) (fun c_12 => ?_) (fun c_12 => ?_)
  · refine a_aloadn_0 (pc := 17) dX12_takes_17 ?_
    refine a_dup (pc := 18) dX12_takes_18 rfl ?_
    refine mg_138 (x := p) hm rfl dX12_takes_19 rfl ?_
    refine a_iconst (pc := 22) (v := nI 1) dX12_takes_22 (by decide) ?_
    refine n_iadd dX12_takes_23 ?_
    refine mp_138 (x := p + 1) hm rfl dX12_takes_24 (fun h1 hm1 => ?_)
    refine a_iconst (pc := 27) (v := nI 1) dX12_takes_27 (by decide) ?_
    exact a_zret (pc := 28) dX12_takes_28 rfl (by first | rfl | exact bI_nar _ | decide) (zf hz) (kt c_12 _ hm1)
  · refine a_iconst (pc := 15) (v := nI 0) dX12_takes_15 (by decide) ?_
    exact a_zret (pc := 16) dX12_takes_16 rfl (by first | rfl | exact bI_nar _ | decide) (zf hz) (kf c_12)
set_option maxRecDepth 100000 in
set_option maxHeartbeats 4000000 in
theorem m_takesG {G : Cx} {d : Nat} {h h0 : List va_E} {b : MB} {t : MT} {o : MO} {bs : Int32} {n p op : Nat} {nms c : Nat → Nat} {Q : Option Value → List va_E → Prop} {g : Nat} (hd : 2 ≤ d) (hz : gz G = false) (hb : BYT b bs n c) (hp9 : p < 1000) (hm : MS G h0 h (b, (bs, p, n, (nI g), op, nms), t, o)) {x : Nat} (hg : g < 1000) (k : Q (some (.int (bI false))) h) : AM G yX12_takes cX12_takes 2 (some .boolean) d 0 0 [.ref (gB G + 80), .int (nI (x))] h Q := by
  obtain ⟨d, rfl, he⟩ := dpos hd
  refine AM.of [some (.ref (gB G + 80)), some (.int (nI (x)))] pnX12 (Nat.le_of_ble_eq_true rfl) (by simp [lsub, lvI, Value.category]) ?_
  refine a_aloadn_0 (pc := 0) dX12_takes_0 ?_
  refine mg_147 (x := nI (g)) hm rfl dX12_takes_1 rfl ?_
  refine n_if_ge (tgt := 15) dX12_takes_4 (by decide) (by omega) ?_
  refine a_iconst (pc := 15) (v := nI 0) dX12_takes_15 (by decide) ?_
  exact a_zret (pc := 16) dX12_takes_16 rfl (by first | rfl | exact bI_nar _ | decide) (zf hz) k
set_option maxRecDepth 100000 in
theorem m_nameOf {G : Cx} {d x : Nat} {h : List va_E} {Q : Option Value → List va_E → Prop} (hd : 1 ≤ d) (hz : gz G = false) (hx : x ≤ 255) (k : Q (some (.int (oI (nmO x)))) h) : AM G yX12_nameOf cX12_nameOf 1 (some .int) d 0 0 [.int (nI x)] h Q := by
  obtain ⟨d, rfl, he⟩ := dpos hd
  refine AM.of [some (.int (nI x))] pnX12 (Nat.le_of_ble_eq_true rfl) (by simp [lsub, lvI, Value.category]) ?_
  have hcs : x = 100 ∨ x = 108 ∨ x = 103 ∨ x = 99 ∨ x = 119 ∨ x = 104 ∨ nmO x = none := by
    unfold nmO
    repeat (split; · simp [*])
    simp
  rcases hcs with rfl | rfl | rfl | rfl | rfl | rfl | hno
  · refine a_iloadn_0 (pc := 0) dX12_nameOf_0 ?_
    refine a_lookup (pc := 1) (off := 59) (tgt := 60) dX12_nameOf_1 (by decide) (by decide) (by decide) ?_
    refine a_iconst (pc := 60) (v := nI 0) dX12_nameOf_60 (by decide) ?_
    exact a_iret (pc := 61) dX12_nameOf_61 rfl (zf hz) k
  · refine a_iloadn_0 (pc := 0) dX12_nameOf_0 ?_
    refine a_lookup (pc := 1) (off := 61) (tgt := 62) dX12_nameOf_1 (by decide) (by decide) (by decide) ?_
    refine a_iconst (pc := 62) (v := nI 1) dX12_nameOf_62 (by decide) ?_
    exact a_iret (pc := 63) dX12_nameOf_63 rfl (zf hz) k
  · refine a_iloadn_0 (pc := 0) dX12_nameOf_0 ?_
    refine a_lookup (pc := 1) (off := 63) (tgt := 64) dX12_nameOf_1 (by decide) (by decide) (by decide) ?_
    refine a_iconst (pc := 64) (v := nI 2) dX12_nameOf_64 (by decide) ?_
    exact a_iret (pc := 65) dX12_nameOf_65 rfl (zf hz) k
  · refine a_iloadn_0 (pc := 0) dX12_nameOf_0 ?_
    refine a_lookup (pc := 1) (off := 65) (tgt := 66) dX12_nameOf_1 (by decide) (by decide) (by decide) ?_
    refine a_iconst (pc := 66) (v := nI 3) dX12_nameOf_66 (by decide) ?_
    exact a_iret (pc := 67) dX12_nameOf_67 rfl (zf hz) k
  · refine a_iloadn_0 (pc := 0) dX12_nameOf_0 ?_
    refine a_lookup (pc := 1) (off := 67) (tgt := 68) dX12_nameOf_1 (by decide) (by decide) (by decide) ?_
    refine a_iconst (pc := 68) (v := nI 4) dX12_nameOf_68 (by decide) ?_
    exact a_iret (pc := 69) dX12_nameOf_69 rfl (zf hz) k
  · refine a_iloadn_0 (pc := 0) dX12_nameOf_0 ?_
    refine a_lookup (pc := 1) (off := 69) (tgt := 70) dX12_nameOf_1 (by decide) (by decide) (by decide) ?_
    refine a_iconst (pc := 70) (v := nI 5) dX12_nameOf_70 (by decide) ?_
    exact a_iret (pc := 71) dX12_nameOf_71 rfl (zf hz) k
  · refine a_iloadn_0 (pc := 0) dX12_nameOf_0 ?_
    refine a_lookup (pc := 1) (off := 71) (tgt := 72) dX12_nameOf_1 (by decide) (nm_out ⟨x, by omega⟩ hno) (by decide) ?_
    refine a_iconst (pc := 72) (v := (-1)) dX12_nameOf_72 (by decide) ?_
    exact a_iret (pc := 73) dX12_nameOf_73 rfl (zf hz) (by rw [hno] at k; exact k)

def PP (G : Cx) (h0 : List va_E) (b : MB) (t : MT) (o : MO) (bs : Int32) (n op : Nat) (nms : Nat → Nat) (r : Nat ⊕ (Nat × Ex)) (h1 : List va_E) (v : Int32) : Prop := match r with
  | .inr (q, e) => MS G h0 h1 (b, (bs, q, n, -1, op, nms), t, o) ∧ v = e (fun j => nI (nms j))
  | .inl f => ∃ at1 op1, op ≤ op1 ∧ at1 < 1000 ∧ MS G h0 h1 (b, (bs, at1, n, nI f, op1, nms), t, o)
def Mg0 (G : Cx) (h0 : List va_E) (b : MB) (t : MT) (o : MO) (bs : Int32) (n : Nat) (nms c : Nat → Nat) (k : Nat) : Prop := ∀ (d : Nat) (h : List va_E) (p op : Nat) (acc : Ex) (Q : Option Value → List va_E → Prop) (r : Nat ⊕ (Nat × Ex)), 6 * (6 - op) + 9 ≤ d → op ≤ 6 → p ≤ n → ps c k 0 op p acc = some r → MS G h0 h (b, (bs, p, n, -1, op, nms), t, o) → (∀ h1 v, PP G h0 b t o bs n op nms r h1 v → Q (some (.int v)) h1) → AM G yX12_either cX12_either 3 (some .int) d 0 0 [.ref (gB G + 80)] h Q
def Mg1 (G : Cx) (h0 : List va_E) (b : MB) (t : MT) (o : MO) (bs : Int32) (n : Nat) (nms c : Nat → Nat) (k : Nat) : Prop := ∀ (d : Nat) (h : List va_E) (p op : Nat) (acc : Ex) (Q : Option Value → List va_E → Prop) (r : Nat ⊕ (Nat × Ex)), 6 * (6 - op) + 8 ≤ d → op ≤ 6 → p ≤ n → ps c k 1 op p acc = some r → MS G h0 h (b, (bs, p, n, -1, op, nms), t, o) → (∀ h1 v, PP G h0 b t o bs n op nms r h1 v → Q (some (.int v)) h1) → AM G yX12_both cX12_both 3 (some .int) d 0 0 [.ref (gB G + 80)] h Q
def Mg2 (G : Cx) (h0 : List va_E) (b : MB) (t : MT) (o : MO) (bs : Int32) (n : Nat) (nms c : Nat → Nat) (k : Nat) : Prop := ∀ (d : Nat) (h : List va_E) (p op : Nat) (acc : Ex) (Q : Option Value → List va_E → Prop) (r : Nat ⊕ (Nat × Ex)), 6 * (6 - op) + 7 ≤ d → op ≤ 6 → p ≤ n → ps c k 2 op p acc = some r → MS G h0 h (b, (bs, p, n, -1, op, nms), t, o) → (∀ h1 v, PP G h0 b t o bs n op nms r h1 v → Q (some (.int v)) h1) → AM G yX12_compared cX12_compared 4 (some .int) d 0 0 [.ref (gB G + 80)] h Q
def Mg3 (G : Cx) (h0 : List va_E) (b : MB) (t : MT) (o : MO) (bs : Int32) (n : Nat) (nms c : Nat → Nat) (k : Nat) : Prop := ∀ (d : Nat) (h : List va_E) (p op : Nat) (acc : Ex) (Q : Option Value → List va_E → Prop) (r : Nat ⊕ (Nat × Ex)), 6 * (6 - op) + 6 ≤ d → op ≤ 6 → p ≤ n → ps c k 3 op p acc = some r → MS G h0 h (b, (bs, p, n, -1, op, nms), t, o) → (∀ h1 v, PP G h0 b t o bs n op nms r h1 v → Q (some (.int v)) h1) → AM G yX12_sums cX12_sums 4 (some .int) d 0 0 [.ref (gB G + 80)] h Q
def Mg4 (G : Cx) (h0 : List va_E) (b : MB) (t : MT) (o : MO) (bs : Int32) (n : Nat) (nms c : Nat → Nat) (k : Nat) : Prop := ∀ (d : Nat) (h : List va_E) (p op : Nat) (acc : Ex) (Q : Option Value → List va_E → Prop) (r : Nat ⊕ (Nat × Ex)), 6 * (6 - op) + 5 ≤ d → op ≤ 6 → p ≤ n → ps c k 4 op p acc = some r → MS G h0 h (b, (bs, p, n, -1, op, nms), t, o) → (∀ h1 v, PP G h0 b t o bs n op nms r h1 v → Q (some (.int v)) h1) → AM G yX12_product cX12_product 4 (some .int) d 0 0 [.ref (gB G + 80)] h Q
def Mg5 (G : Cx) (h0 : List va_E) (b : MB) (t : MT) (o : MO) (bs : Int32) (n : Nat) (nms c : Nat → Nat) (k : Nat) : Prop := ∀ (d : Nat) (h : List va_E) (p op : Nat) (acc : Ex) (Q : Option Value → List va_E → Prop) (r : Nat ⊕ (Nat × Ex)), 6 * (6 - op) + 4 ≤ d → op ≤ 6 → p ≤ n → ps c k 5 op p acc = some r → MS G h0 h (b, (bs, p, n, -1, op, nms), t, o) → (∀ h1 v, PP G h0 b t o bs n op nms r h1 v → Q (some (.int v)) h1) → AM G yX12_one cX12_one 5 (some .int) d 0 0 [.ref (gB G + 80)] h Q
