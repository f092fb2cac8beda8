/-- how hard dark presses, by a law -/
abbrev Lf : Type := Nat → Nat → Nat → Nat → Nat → Nat → Nat
def hN (x : Int32) : Nat := if x < 0 then 0 else if 9 < x then 9 else x.toNatClampNeg
theorem hN_of {x : Int32} {n : Nat} (hn : n ≤ 9) (h : nI n = (if x < 0 then 0 else if 9 < x then 9 else x)) : n = hN x := by
  unfold hN
  by_cases h0 : x < 0
  · rw [if_pos h0] at h ⊢
    exact (nI_eq (by omega) (by decide)).mp (h.trans nI_0.symm)
  · rw [if_neg h0] at h ⊢
    by_cases h9 : 9 < x
    · rw [if_pos h9] at h ⊢
      exact (nI_eq (b := 9) (by omega) (by decide)).mp h
    · rw [if_neg h9] at h ⊢
      rw [← h, nI_clamp (by omega)]
theorem hN_le (x : Int32) : hN x ≤ 9 := by
  unfold hN
  by_cases h0 : x < 0
  · rw [if_pos h0]; omega
  · rw [if_neg h0]
    by_cases h9 : 9 < x
    · rw [if_pos h9]; omega
    · rw [if_neg h9]
      obtain ⟨j, hj, rfl⟩ := nI_of2 (M := 9) (n := 9) (by decide) h0 (Int32.not_lt.mp h9)
      rw [nI_clamp (by omega)]
      exact hj
theorem x_heldN {G : Cx} {d : Nat} {x : Int32} {h : List va_E} {Q : Option Value → List va_E → Prop} (hd : 1 ≤ d) (hz : gz G = false) (k : Q (some (.int (nI (hN x)))) h) : AM G yX2_held cX2_held 1 (some .int) d 0 0 [.int x] h Q :=
  x_held hd hz (fun n hn e => by rw [hN_of hn e]; exact k)
abbrev plc (d l g c hh : Nat) : Nat := (((d * 5 + l) * 10 + g) * 2 + c) * 12 + hh
/-- but for the law's scratch cells nothing has changed -/
def HL (h h' : List va_E) : Prop := h'.length = h.length ∧ (∀ k, k ≠ 12 → k ≠ 15 → k ≠ 22 → h'[k]? = h[k]?) ∧ ∀ (k : Nat) (c : ClassId) (n : Nat) (f : Nat → Int32), h[k]? = some (.inl (c, n, .inl f)) → ∃ f', h'[k]? = some (.inl (c, n, .inl f'))
theorem HL.rfl' (h : List va_E) : HL h h := ⟨rfl, fun _ _ _ _ => rfl, fun _ _ _ f e => ⟨f, e⟩⟩
theorem HL.trans {a b c : List va_E} (h1 : HL a b) (h2 : HL b c) : HL a c := ⟨h2.1.trans h1.1, fun k a1 a2 a3 => (h2.2.1 k a1 a2 a3).trans (h1.2.1 k a1 a2 a3), fun k c n f e => by
  obtain ⟨f1, e1⟩ := h1.2.2 k c n f e
  exact h2.2.2 k c n f1 e1⟩
theorem HL.set {h : List va_E} {k n : Nat} {c : ClassId} {f f' : Nat → Int32} (hk : k = 12 ∨ k = 15 ∨ k = 22) (he : h[k]? = some (.inl (c, n, .inl f))) : HL h (h.set k (.inl (c, n, .inl f'))) := ⟨by simp, fun j a1 a2 a3 => by rw [List.getElem?_set_ne (by omega)], fun j c' n' g e => by
  by_cases q : k = j
  · subst q
    rw [he] at e
    cases e
    exact ⟨f', hs_eq he⟩
  · exact ⟨g, by rw [List.getElem?_set_ne q]; exact e⟩⟩
/-- the law's cells hold the law F -/
def LawAt (G : Cx) (h : List va_E) (F : Lf) (t rd : Nat) (x : Tx) (vf : Nat → Int32) (m y : Nat → Nat) : Prop :=
  (t = 8 ∨ t = 18) ∧ rd < 100000 ∧ h[7]? = some (.inr (2, [.ref (gB G + t), .ref (gB G + 15), .int (nI rd)])) ∧ h[15]? = some (ints G 6000 (fun p => m p * 16 + y p)) ∧ (∀ p, m p ≤ rd ∧ y p ≤ 15) ∧
  (rd = 0 → ∀ d l g c w hh, F d l g c w hh = hN (nI d + nI g / nI 3 - nI l)) ∧
  (rd ≠ 0 → textAt G h t x vf ∧ (∀ d l g c w hh, F d l g c w hh = hN (evalT x (nI d) (nI l) (nI g) (nI c) (nI w) (nI hh))) ∧ ∀ d l g c hh, d < 5 → l < 5 → g < 10 → c < 2 → hh < 12 → m (plc d l g c hh) = rd → y (plc d l g c hh) = F d l g c 0 hh)
def LawOK (G : Cx) (h : List va_E) (F : Lf) : Prop := ∃ t rd x vf m y, LawAt G h F t rd x vf m y
theorem textAt_set {G : Cx} {h : List va_E} {t : Nat} {x : Tx} {vf vf' : Nat → Int32} (H : textAt G h t x vf) (hv : ∀ i, 6 ≤ i → i < tP x → tS x i = 48 → vf' i = tV x i) : textAt G (h.set (t + 4) (arr G 126 vf')) t x vf' := by
  obtain ⟨q0, q1, q2, q3, q4, q5, q6, ok, -⟩ := H
  exact ⟨hs_ne (by omega) q0, hs_ne (by omega) q1, hs_ne (by omega) q2, hs_ne (by omega) q3, hs_eq q4, hs_ne (by omega) q5, hs_ne (by omega) q6, ok, hv⟩
theorem textAt_out {G : Cx} {h : List va_E} {t k : Nat} {e : va_E} {x : Tx} {vf : Nat → Int32} (hk : k < t ∨ t + 6 < k) (H : textAt G h t x vf) : textAt G (h.set k e) t x vf := by
  obtain ⟨q0, q1, q2, q3, q4, q5, q6, ok⟩ := H
  exact ⟨hs_ne (by omega) q0, hs_ne (by omega) q1, hs_ne (by omega) q2, hs_ne (by omega) q3, hs_ne (by omega) q4, hs_ne (by omega) q5, hs_ne (by omega) q6, ok⟩
theorem plc_inj {d l g c hh d' l' g' c' hh' : Nat} (h1 : l < 5 ∧ g < 10 ∧ c < 2 ∧ hh < 12) (h2 : l' < 5 ∧ g' < 10 ∧ c' < 2 ∧ hh' < 12) (e : plc d l g c hh = plc d' l' g' c' hh') : d = d' ∧ l = l' ∧ g = g' ∧ c = c' ∧ hh = hh' := by
  unfold plc at e
  have e1 : ((d * 5 + l) * 10 + g) * 2 + c = ((d' * 5 + l') * 10 + g') * 2 + c' := by omega
  have e2 : (d * 5 + l) * 10 + g = (d' * 5 + l') * 10 + g' := by omega
  have e3 : d * 5 + l = d' * 5 + l' := by omega
  omega
theorem LawAt_text {G : Cx} {h : List va_E} {F : Lf} {t rd : Nat} {x : Tx} {vf vf' : Nat → Int32} {m y : Nat → Nat} (H : LawAt G h F t rd x vf m y) (hr : rd ≠ 0) (hv : ∀ i, 6 ≤ i → i < tP x → tS x i = 48 → vf' i = tV x i) : LawAt G (h.set (t + 4) (arr G 126 vf')) F t rd x vf' m y := by
  obtain ⟨a1, a2, a3, a4, a5, a6, a7⟩ := H
  obtain ⟨b1, b2, b3⟩ := a7 hr
  exact ⟨a1, a2, hs_ne (by omega) a3, hs_ne (by omega) a4, a5, a6, fun _ => ⟨textAt_set b1 hv, b2, b3⟩⟩
theorem LawAt_known {G : Cx} {h : List va_E} {F : Lf} {t rd : Nat} {x : Tx} {vf : Nat → Int32} {m y : Nat → Nat} (H : LawAt G h F t rd x vf m y) (hr : rd ≠ 0) {d l g c hh : Nat} (hb : d < 5 ∧ l < 5 ∧ g < 10 ∧ c < 2 ∧ hh < 12) (hF : F d l g c 0 hh ≤ 15) : LawAt G (h.set 15 (ints G 6000 (fun p => va_up m (plc d l g c hh) rd p * 16 + va_up y (plc d l g c hh) (F d l g c 0 hh) p))) F t rd x vf (va_up m (plc d l g c hh) rd) (va_up y (plc d l g c hh) (F d l g c 0 hh)) := by
  obtain ⟨a1, a2, a3, a4, a5, a6, a7⟩ := H
  obtain ⟨b1, b2, b3⟩ := a7 hr
  refine ⟨a1, a2, hs_ne (by omega) a3, hs_eq a4, fun p => ?_, a6, fun _ => ⟨textAt_out (by omega) b1, b2, fun d' l' g' c' hh' c1 c2 c3 c4 c5 hm => ?_⟩⟩
  · unfold va_up
    split
    · exact ⟨Nat.le_refl _, hF⟩
    · exact a5 p
  · unfold va_up at hm ⊢
    by_cases e : plc d' l' g' c' hh' = plc d l g c hh
    · rw [if_pos e]
      obtain ⟨rfl, rfl, rfl, rfl, rfl⟩ := plc_inj ⟨c2, c3, c4, c5⟩ hb.2 e
      rfl
    · rw [if_neg e] at hm ⊢
      exact b3 d' l' g' c' hh' c1 c2 c3 c4 c5 hm
theorem nI_or16 {a b : Nat} (ha : a < 100000) (hb : b ≤ 15) : (nI a <<< (nI 4 &&& 31)) ||| nI b = nI (a * 16 + b) := by
  rw [pk_shlN (n := a) (nI 4 &&& 31) 4 (by decide) (by omega)]
  show (Int32.ofNat _ ||| Int32.ofNat _) = Int32.ofNat _
  apply Int32.toBitVec_inj.mp
  show (BitVec.ofNat 32 (a * 2 ^ 4) ||| BitVec.ofNat 32 b) = BitVec.ofNat 32 (a * 16 + b)
  apply BitVec.eq_of_toNat_eq
  rw [BitVec.toNat_or, BitVec.toNat_ofNat, BitVec.toNat_ofNat, BitVec.toNat_ofNat, Nat.mod_eq_of_lt (by omega), Nat.mod_eq_of_lt (by omega), Nat.mod_eq_of_lt (by omega)]
  have := Nat.shiftLeft_add_eq_or_of_lt (show b < 2 ^ 4 by omega) a
  rw [Nat.shiftLeft_eq] at this
  omega
theorem known_up (m y : Nat → Nat) (p rd v : Nat) : upd (fun j => nI (m j * 16 + y j)) p (nI (rd * 16 + v)) = fun q => nI (va_up m p rd q * 16 + va_up y p v q) := by
  funext q
  unfold upd va_up
  by_cases e : q = p <;> simp [e]
theorem nI_shr4 {n : Nat} (h : n < 2147483648) : nI n >>> (nI 4 &&& 31) = nI (n / 16) := pk_shrN h (nI 4 &&& 31) 4 (by decide)
theorem nI_and15 {n : Nat} (h : n < 2147483648) : nI n &&& nI 15 = nI (n % 16) := pk_andN (n := n) (by omega) 4 (by decide)
set_option maxRecDepth 100000 in
set_option maxHeartbeats 4000000 in
theorem x_pressing {G : Cx} {d dd l g c w hh : Nat} {F : Lf} {h : List va_E} {Q : Option Value → List va_E → Prop} (hd : 3 ≤ d) (hz : gz G = false) (hL : LawOK G h F) (hb : dd < 5 ∧ l < 5 ∧ g < 10 ∧ c < 2 ∧ hh < 12 ∧ w < 1000) (k : ∀ h', HL h h' → LawOK G h' F → Q (some (.int (nI (F dd l g c w hh)))) h') : AM G yX2_pressing cX2_pressing 8 (some .int) d 0 0 [.ref (gB G + 7), .int (nI dd), .int (nI l), .int (nI g), .int (nI c), .int (nI w), .int (nI hh)] h Q := by
  obtain ⟨d, rfl, he⟩ := dpos hd
  obtain ⟨t, rd, x, vf, m, y, H⟩ := hL
  obtain ⟨a1, a2, a3, a4, a5, a6, a7⟩ := id H
  obtain ⟨p, hp⟩ : ∃ p, p = plc dd l g c hh := ⟨_, rfl⟩
  have hp6 : p < 6000 := by rw [hp]; unfold plc; omega
  have he' : 1 ≤ d := by omega
  refine AM.of [some (.ref (gB G + 7)), some (.int (nI dd)), some (.int (nI l)), some (.int (nI g)), some (.int (nI c)), some (.int (nI w)), some (.int (nI hh)), none] pnX2 (Nat.le_of_ble_eq_true rfl) (by simp [lsub, lvI, Value.category]) ?_
  refine a_aloadn_0 (pc := 0) dX2_pressing_0 ?_
  refine gf_X2_23 (pc := 1) rfl dX2_pressing_1 (by first | exact a3 | exact H1.2.2.1 | exact H2.2.2.1) ?_
  refine a_if_ne (pc := 4) (tgt := 18) dX2_pressing_4 (by decide) (fun c_4 => ?_) (fun c_4 => ?_)
  · have hr : rd ≠ 0 := fun q => c_4 (by rw [q]; rfl)
    obtain ⟨b1, b2, b3⟩ := a7 hr
    refine a_iloadn_1 (pc := 18) dX2_pressing_18 ?_
    refine a_iconst (pc := 19) (v := nI 5) dX2_pressing_19 (by decide) ?_
    refine a_imul (pc := 20) dX2_pressing_20 ?_
    refine a_iloadn_2 (pc := 21) dX2_pressing_21 ?_
    refine a_iadd (pc := 22) dX2_pressing_22 ?_
    refine a_bipush (pc := 23) (v := nI 10) dX2_pressing_23 (by decide) ?_
    refine a_imul (pc := 25) dX2_pressing_25 ?_
    refine a_iloadn_3 (pc := 26) dX2_pressing_26 ?_
    refine a_iadd (pc := 27) dX2_pressing_27 ?_
    refine a_iconst (pc := 28) (v := nI 2) dX2_pressing_28 (by decide) ?_
    refine a_imul (pc := 29) dX2_pressing_29 ?_
    refine a_iload_4 (pc := 30) dX2_pressing_30 ?_
    refine a_iadd (pc := 32) dX2_pressing_32 ?_
    refine a_bipush (pc := 33) (v := nI 12) dX2_pressing_33 (by decide) ?_
    refine a_imul (pc := 35) dX2_pressing_35 ?_
    refine a_iload_6 (pc := 36) dX2_pressing_36 ?_
    refine a_iadd (pc := 38) dX2_pressing_38 ?_
    refine a_topi (nI p) (by rw [hp]; simp only [pk_mul, nI_add]) ?_
    refine a_istore_7 (pc := 39) dX2_pressing_39 (by decide) (by first | rfl | trivial) ?_
    refine a_iload_5 (pc := 41) dX2_pressing_41 ?_
    refine a_if_gt (pc := 43) (tgt := 59) dX2_pressing_43 (by decide) (fun c_43 => ?_) (fun c_43 => ?_)
    · 
      refine a_aloadn_0 (pc := 59) dX2_pressing_59 ?_
      refine gf_X2_10 (pc := 60) rfl dX2_pressing_60 (by first | exact a3 | exact H1.2.2.1 | exact H2.2.2.1) ?_
      refine a_iloadn_1 (pc := 63) dX2_pressing_63 ?_
      refine a_iloadn_2 (pc := 64) dX2_pressing_64 ?_
      refine a_iloadn_3 (pc := 65) dX2_pressing_65 ?_
      refine a_iload_4 (pc := 66) dX2_pressing_66 ?_
      refine a_iload_5 (pc := 68) dX2_pressing_68 ?_
      refine a_iload_6 (pc := 70) dX2_pressing_70 ?_
      refine cv_X2_31 (pc := 72) rfl dX2_pressing_72 (b1.1) (Nat.le_of_ble_eq_true rfl) ?_
      refine x_workOut he hz b1 (fun vf' hv => ?_)
      refine cs_X2_27 (pc := 75) rfl dX2_pressing_75 (Nat.le_of_ble_eq_true rfl) ?_
      refine x_heldN he' hz ?_
      exact a_iret (pc := 78) dX2_pressing_78 rfl (zf hz) (by rw [← b2 dd l g c w hh]; exact k _ (HL.set (by omega) b1.2.2.2.2.1) ⟨t, rd, x, vf', m, y, LawAt_text H hr hv⟩)
    · have hw0 : w = 0 := (nI_le0 (by omega)).mp (Int32.not_lt.mp c_43)
      subst hw0
      refine a_iload_7 (pc := 46) dX2_pressing_46 ?_
      refine a_if_lt (pc := 48) (tgt := 59) dX2_pressing_48 (by decide) (fun c_48 => absurd c_48 (nI_pos (by omega))) (fun c_48 => ?_)
      refine a_iload_7 (pc := 51) dX2_pressing_51 ?_
      refine a_sipush (pc := 53) (v := nI 6000) dX2_pressing_53 (by decide) ?_
      refine a_icmp_lt (pc := 56) (tgt := 79) dX2_pressing_56 (by decide) (fun c_56 => ?_) (fun c_56 => absurd (nI_lt hp6 (by decide)) c_56)
      refine a_aloadn_0 (pc := 79) dX2_pressing_79 ?_
      refine gf_X2_16 (pc := 80) rfl dX2_pressing_80 (by first | exact a3 | exact H1.2.2.1 | exact H2.2.2.1) ?_
      refine a_iload_7 (pc := 83) dX2_pressing_83 ?_
      refine b_iald (pc := 85) p dX2_pressing_85 a4 rfl hp6 (by decide) ?_
      refine a_topi (nI (m p * 16 + y p)) rfl ?_
      refine a_iconst (pc := 86) (v := nI 4) dX2_pressing_86 (by decide) ?_
      refine a_ishr (pc := 87) dX2_pressing_87 ?_
      refine a_topi (nI (m p)) (by rw [nI_shr4 (by have := a5 p; omega)]; congr 1; have := a5 p; omega) ?_
      refine a_aloadn_0 (pc := 88) dX2_pressing_88 ?_
      refine gf_X2_23 (pc := 89) rfl dX2_pressing_89 (by first | exact a3 | exact H1.2.2.1 | exact H2.2.2.1) ?_
      refine a_icmp_eq (pc := 92) (tgt := 128) dX2_pressing_92 (by decide) (fun c_92 => ?_) (fun c_92 => ?_)
      · have hm : m p = rd := (nI_eq (by have := a5 p; omega) (by omega)).mp c_92
        have hy := b3 dd l g c hh (by omega) (by omega) (by omega) (by omega) (by omega) (by rw [← hp]; exact hm)
        refine a_aloadn_0 (pc := 128) dX2_pressing_128 ?_
        refine gf_X2_16 (pc := 129) rfl dX2_pressing_129 (by first | exact a3 | exact H1.2.2.1 | exact H2.2.2.1) ?_
        refine a_iload_7 (pc := 132) dX2_pressing_132 ?_
        refine b_iald (pc := 134) p dX2_pressing_134 (by first | exact a4 | exact H2.2.2.2.1) rfl hp6 (by decide) ?_
        first | refine a_topi (nI (m p * 16 + y p)) rfl ?_ | refine a_topi (nI (rd * 16 + F dd l g c 0 hh)) (by simp only [va_up, if_true]) ?_
        refine a_bipush (pc := 135) (v := nI 15) dX2_pressing_135 (by decide) ?_
        refine a_iand (pc := 137) dX2_pressing_137 ?_
        first | (refine a_topi (nI (F dd l g c 0 hh)) (by rw [nI_and15 (by have := a5 p; omega)]; congr 1; rw [← hy, ← hp]; have := a5 p; omega) ?_) | (refine a_topi (nI (F dd l g c 0 hh)) (by rw [nI_and15 (by omega)]; congr 1; omega) ?_)
        exact a_iret (pc := 138) dX2_pressing_138 rfl (zf hz) (by first | exact k h (HL.rfl' h) ⟨t, rd, x, vf, m, y, H⟩ | exact k _ (HL.trans (HL.set (by omega) b1.2.2.2.2.1) (HL.set (by omega) H1.2.2.2.1)) ⟨_, _, _, _, _, _, H2⟩)
      · 
        refine a_aloadn_0 (pc := 95) dX2_pressing_95 ?_
        refine gf_X2_16 (pc := 96) rfl dX2_pressing_96 (by first | exact a3 | exact H1.2.2.1 | exact H2.2.2.1) ?_
        refine a_iload_7 (pc := 99) dX2_pressing_99 ?_
        refine a_aloadn_0 (pc := 101) dX2_pressing_101 ?_
        refine gf_X2_23 (pc := 102) rfl dX2_pressing_102 (by first | exact a3 | exact H1.2.2.1 | exact H2.2.2.1) ?_
        refine a_iconst (pc := 105) (v := nI 4) dX2_pressing_105 (by decide) ?_
        refine a_ishl (pc := 106) dX2_pressing_106 ?_
        refine a_aloadn_0 (pc := 107) dX2_pressing_107 ?_
        refine gf_X2_10 (pc := 108) rfl dX2_pressing_108 (by first | exact a3 | exact H1.2.2.1 | exact H2.2.2.1) ?_
        refine a_iloadn_1 (pc := 111) dX2_pressing_111 ?_
        refine a_iloadn_2 (pc := 112) dX2_pressing_112 ?_
        refine a_iloadn_3 (pc := 113) dX2_pressing_113 ?_
        refine a_iload_4 (pc := 114) dX2_pressing_114 ?_
        refine a_iload_5 (pc := 116) dX2_pressing_116 ?_
        refine a_iload_6 (pc := 118) dX2_pressing_118 ?_
        refine cv_X2_31 (pc := 120) rfl dX2_pressing_120 (b1.1) (Nat.le_of_ble_eq_true rfl) ?_
        refine x_workOut he hz b1 (fun vf' hv => ?_)
        have H1 := LawAt_text H hr hv
        have F9 : F dd l g c 0 hh ≤ 9 := by rw [b2]; exact hN_le _
        refine cs_X2_27 (pc := 123) rfl dX2_pressing_123 (Nat.le_of_ble_eq_true rfl) ?_
        refine x_heldN he' hz ?_
        rw [← b2 dd l g c 0 hh]
        refine a_ior (pc := 126) dX2_pressing_126 ?_
        refine a_topi (nI (rd * 16 + F dd l g c 0 hh)) (nI_or16 a2 (by omega)) ?_
        refine b_iast (pc := 127) p dX2_pressing_127 H1.2.2.2.1 rfl hp6 (by decide) ?_
        refine a_h (h' := (h.set (t + 4) (arr G 126 vf')).set 15 (ints G 6000 (fun q => va_up m p rd q * 16 + va_up y p (F dd l g c 0 hh) q))) (congrArg (fun f => (h.set (t + 4) (arr G 126 vf')).set 15 (arr G 6000 f)) (known_up m y p rd (F dd l g c 0 hh))) ?_
        have H2 := LawAt_known H1 hr (d := dd) (l := l) (g := g) (c := c) (hh := hh) (by omega) (by omega)
        rw [← hp] at H2
        refine a_aloadn_0 (pc := 128) dX2_pressing_128 ?_
        refine gf_X2_16 (pc := 129) rfl dX2_pressing_129 (by first | exact a3 | exact H1.2.2.1 | exact H2.2.2.1) ?_
        refine a_iload_7 (pc := 132) dX2_pressing_132 ?_
        refine b_iald (pc := 134) p dX2_pressing_134 (by first | exact a4 | exact H2.2.2.2.1) rfl hp6 (by decide) ?_
        first | refine a_topi (nI (m p * 16 + y p)) rfl ?_ | refine a_topi (nI (rd * 16 + F dd l g c 0 hh)) (by simp only [va_up, if_true]) ?_
        refine a_bipush (pc := 135) (v := nI 15) dX2_pressing_135 (by decide) ?_
        refine a_iand (pc := 137) dX2_pressing_137 ?_
        first | (refine a_topi (nI (F dd l g c 0 hh)) (by rw [nI_and15 (by have := a5 p; omega)]; congr 1; rw [← hy, ← hp]; have := a5 p; omega) ?_) | (refine a_topi (nI (F dd l g c 0 hh)) (by rw [nI_and15 (by omega)]; congr 1; omega) ?_)
        exact a_iret (pc := 138) dX2_pressing_138 rfl (zf hz) (by first | exact k h (HL.rfl' h) ⟨t, rd, x, vf, m, y, H⟩ | exact k _ (HL.trans (HL.set (by omega) b1.2.2.2.2.1) (HL.set (by omega) H1.2.2.2.1)) ⟨_, _, _, _, _, _, H2⟩)
  · have hr : rd = 0 := (nI_eq (by omega) (by decide)).mp c_4
    refine a_iloadn_1 (pc := 7) dX2_pressing_7 ?_
    refine a_iloadn_3 (pc := 8) dX2_pressing_8 ?_
    refine a_iconst (pc := 9) (v := nI 3) dX2_pressing_9 (by decide) ?_
    refine a_idiv (pc := 10) dX2_pressing_10 (by decide) ?_
    refine a_iadd (pc := 11) dX2_pressing_11 ?_
    refine a_iloadn_2 (pc := 12) dX2_pressing_12 ?_
    refine a_isub (pc := 13) dX2_pressing_13 ?_
    refine cs_X2_27 (pc := 14) rfl dX2_pressing_14 (Nat.le_of_ble_eq_true rfl) ?_
    refine x_heldN he' hz ?_
    exact a_iret (pc := 17) dX2_pressing_17 rfl (zf hz) (by rw [← a6 hr dd l g c w hh]; exact k h (HL.rfl' h) ⟨t, rd, x, vf, m, y, H⟩)
