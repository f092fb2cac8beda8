/-! only the six names count -/
def AG (e : Ex) : Prop := ∀ nm nm1 : En, (∀ j, j < 6 → nm j = nm1 j) → e nm = e nm1
theorem ps_ag (c : Nat → Nat) : ∀ k md o p acc q e, ps c k md o p acc = some (.inr (q, e)) → (md ≤ 5 ∨ (10 ≤ md ∧ md ≤ 14)) → (10 ≤ md → AG acc) → AG e
  | 0, md, o, p, acc, q, e, H, _, _ => (ps_0 H).elim
  | k + 1, md, o, p, acc, q, e, H, hmd, ha => by
    by_cases m5 : md < 5
    · rcases ps_lv m5 H with ⟨f, _, h⟩ | ⟨q1, e1, h1, h2⟩
      · cases h
      · have a1 := ps_ag c k _ _ _ _ _ _ h1 (by omega) (fun h => by omega)
        exact ps_ag c k _ _ _ _ _ _ h2 (by omega) (fun _ => a1)
    · by_cases m10 : md < 10
      · obtain rfl : md = 5 := by omega
        rcases ps_op H with ⟨_, h⟩ | ⟨j, hj, h⟩ | ⟨_, _, ⟨f, _, h⟩ | ⟨q1, e1, h1, ⟨_, h⟩ | ⟨_, h⟩⟩⟩ | ⟨_, _, ⟨f, _, h⟩ | ⟨q1, e1, h1, h⟩⟩ | ⟨_, _, _, h⟩
        · cases h; exact fun _ _ _ => rfl
        · cases h; exact fun nm nm1 h => h j (nmO_ch hj).1
        · cases h
        · cases h; exact ps_ag c k _ _ _ _ _ _ h1 (by omega) (fun h => by omega)
        · cases h
        · cases h
        · cases h
          have a1 := ps_ag c k _ _ _ _ _ _ h1 (by omega) (fun h => by omega)
          intro nm nm1 h
          show joinV _ (e1 nm) (e1 nm) = joinV _ (e1 nm1) (e1 nm1)
          rw [a1 nm nm1 h]
        · cases h
      · obtain ⟨L, rfl⟩ : ∃ L, md = 10 + L := ⟨md - 10, by omega⟩
        have a0 := ha (by omega)
        rcases ps_lp H with ⟨_, h⟩ | ⟨_, ⟨f, _, h⟩ | ⟨q1, e1, h1, h2, h3⟩⟩
        · cases h; exact a0
        · cases h
        · have a1 := ps_ag c k _ _ _ _ _ _ h1 (by omega) (fun h => by omega)
          have an : AG (fun nm => joinV (c p) (acc nm) (e1 nm)) := by
            intro nm nm1 h
            show joinV _ (acc nm) (e1 nm) = joinV _ (acc nm1) (e1 nm1)
            rw [a0 nm nm1 h, a1 nm nm1 h]
          by_cases h2L : L = 2
          · have := h2 h2L; cases this; exact an
          · exact ps_ag c k _ _ _ _ _ _ (h3 h2L) hmd (fun _ => an)
def AGA (A : An) : Prop := ∀ nm nm1 : En, (∀ j, j < 6 → nm j = nm1 j) → A nm = A nm1
theorem lnA_ag {A : An} {ce : Option Ex} {e : Ex} (h1 : AGA A) (h2 : ∀ c, ce = some c → AG c) (h3 : AG e) : AGA (lnA A ce e) := by
  intro nm nm1 h
  unfold lnA
  rw [h1 nm nm1 h, h3 nm nm1 h]
  cases A nm1 with
  | some v => rfl
  | none =>
    cases ce with
    | none => rfl
    | some c => dsimp only; rw [h2 c rfl nm nm1 h]
theorem pl_ag (c : Nat → Nat) (n : Nat) : ∀ k p A A1, pl c n k p A = some (.inr A1) → AGA A → AGA A1
  | 0, p, A, A1, H, _ => (pl_0 H).elim
  | k + 1, p, A, A1, H, ha => by
    have g0 : ∀ p q e, ps c 2000 0 0 p ez = some (.inr (q, e)) → AG e := fun p q e h => ps_ag c _ _ _ _ _ _ _ h (by omega) (fun h => by omega)
    have key : ∀ q A', AGA A' → PN c n k q A' (.inr A1) → AGA A1 := by
      intro q A' h1 h2
      rcases h2 with ⟨_, h2⟩ | ⟨_, ⟨_, h2⟩ | ⟨_, h2⟩⟩
      · exact pl_ag c n k _ _ _ h2 h1
      · cases h2
      · cases h2; exact h1
    rcases pl_st H with ⟨f, _, h⟩ | ⟨q, e, h1, _, h2⟩ | ⟨q, e, _, _, f, _, h⟩ | ⟨q, e, h1, _, q2, e2, h3, h2⟩
    · cases h
    · exact key _ _ (lnA_ag ha (fun c hc => by cases hc) (g0 _ _ _ h1)) h2
    · cases h
    · exact key _ _ (lnA_ag ha (fun c hc => by cases hc; exact g0 _ _ _ h1) (g0 _ _ _ h3)) h2
theorem txt_ag {c : Nat → Nat} {n : Nat} (hc : ∀ i, n ≤ i → c i = 0) (hn : n ≤ 120) {A : An} (h : txt c n = .inr A) : AGA A := by
  have := txt_eq hc hn
  rw [h] at this
  exact pl_ag c n _ _ _ _ this (fun _ _ _ => rfl)
/-- the law as the reference has it -/
def LM (b : MB) (F : Lf) : Prop := (b.2.1.2.2.2 = -1 ∧ F = law0) ∨ (∃ n A, b.2.1.2.2.2 = nI n ∧ n ≤ 120 ∧ (∀ i, i < n → b.2.1.2.2.1 i ≤ 255) ∧ txt (chA b.2.1.2.2.1 n) n = .inr A ∧ F = lawF A)
theorem nI_hN (x : Int32) : nI (hN x) = (if x < 0 then 0 else if 9 < x then 9 else x) := by
  obtain ⟨n, hn, -, e⟩ := held_nI x
  rw [← hN_of hn e, e]
theorem law0_eq {d l g : Nat} (hg : g < 1000) : law0 d l g = fun _ _ _ => hN (nI (d + g / 3) - nI l) := by
  unfold law0
  rw [show nI g / nI 3 = nI (g / 3) from pk_div (by omega) (by decide) (by decide), nI_add]
set_option maxRecDepth 100000 in
set_option maxHeartbeats 4000000 in
theorem m_pressOn {G : Cx} {d : Nat} {h h0 : List va_E} {b : MB} {p : MP} {t : MT} {o : MO} {Q : Option Value → List va_E → Prop} (hd : 64 ≤ d) (hz : gz G = false) (hm : MS G h0 h (b, p, t, o)) {v : Cv} (hv : HV (b, p, t, o) v) (okv : okC v) {F : Lf} (hL : LM b F) {r : Nat} (hr : r < 36) (k : ∀ h1 p1, MS G h0 h1 (b, p1, t, o) → Q (some (.int (nI (prs F v r)))) h1) : AM G yX12_pressOn cX12_pressOn 3 (some .int) d 0 0 [.ref (gB G + 80), .int (nI (r))] h Q := by
  obtain ⟨d, rfl, he⟩ := dpos hd
  refine AM.of [some (.ref (gB G + 80)), some (.int (nI (r))), none] pnX12 (Nat.le_of_ble_eq_true rfl) (by simp [lsub, lvI, Value.category]) ?_
  have g9 := okv.2.1 r
  have w9 := okv.1 r
  have t9 := okv.2.2.2.2.2.1
  have dB9 := dB_lt (cK v) hr
  have lB9 := lB_lt (clit v) hr
  rcases hL with ⟨qL1, qL2⟩ | ⟨n, A, qL1, hn, qL3, qL4, qL5⟩
  · refine a_aloadn_0 (pc := 0) dX12_pressOn_0 ?_
    refine a_iloadn_1 (pc := 1) dX12_pressOn_1 ?_
    refine cv_X12_199 (pc := 2) rfl dX12_pressOn_2 hm.2.2.1 (Nat.le_of_ble_eq_true rfl) ?_
    refine m_darkBeside (by omega) hz hm hv okv (by omega) ?_
    refine a_aloadn_0 (pc := 5) dX12_pressOn_5 ?_
    refine mg_9 hm rfl dX12_pressOn_6 ?_
    refine a_bipush (pc := 9) (v := nI 36) dX12_pressOn_9 (by decide) ?_
    refine a_iloadn_1 (pc := 11) dX12_pressOn_11 ?_
    refine n_iadd dX12_pressOn_12 ?_
    refine ml_may (x := cG v r) hm dX12_pressOn_13 (by omega) (hv.1 r (by omega)).2.2.1 ?_
    refine a_iconst (pc := 14) (v := nI 3) dX12_pressOn_14 (by decide) ?_
    refine n_idiv dX12_pressOn_15 (by omega) (by decide) (by decide) ?_
    refine n_iadd dX12_pressOn_16 ?_
    refine a_aloadn_0 (pc := 17) dX12_pressOn_17 ?_
    refine a_iloadn_1 (pc := 18) dX12_pressOn_18 ?_
    refine cv_X12_202 (pc := 19) rfl dX12_pressOn_19 hm.2.2.1 (Nat.le_of_ble_eq_true rfl) ?_
    refine m_litBeside (by omega) hz hm hv okv (by omega) ?_
    refine a_isub (pc := 22) dX12_pressOn_22 ?_
    have hF : prs F v r = hN (nI (dB (cK v) r + cG v r / 3) - nI (lB (clit v) r)) := by rw [qL2]; show law0 _ _ _ _ _ _ = _; rw [law0_eq (by omega)]
    have hfin : ∀ (y : Int32) (p9 : MP), MS G h0 h (b, p9, t, o) → y = (if (nI (dB (cK v) r + cG v r / 3) - nI (lB (clit v) r)) < 0 then 0 else if 9 < (nI (dB (cK v) r + cG v r / 3) - nI (lB (clit v) r)) then 9 else (nI (dB (cK v) r + cG v r / 3) - nI (lB (clit v) r))) → Q (some (.int y)) h := fun y p9 H e => by
      rw [e, ← nI_hN, ← hF]; exact k _ p9 H
    refine a_istoren_2 (pc := 23) dX12_pressOn_23 (by decide) (by first | rfl | trivial) ?_
    refine a_aloadn_0 (pc := 24) dX12_pressOn_24 ?_
    refine mg_84 (x := (-1)) hm rfl dX12_pressOn_25 qL1 ?_
    refine a_if_lt (pc := 28) (tgt := 115) dX12_pressOn_28 (by decide) (fun c_28 => ?_) (fun c_28 => absurd c_28 (by decide))
    refine a_iloadn_2 (pc := 115) dX12_pressOn_115 ?_
    refine a_if_ge (pc := 116) (tgt := 123) dX12_pressOn_116 (by decide) (fun c_116 => ?_) (fun c_116 => ?_)
    · refine a_iloadn_2 (pc := 123) dX12_pressOn_123 ?_
      refine a_bipush (pc := 124) (v := nI 9) dX12_pressOn_124 (by decide) ?_
      refine a_icmp_le (pc := 126) (tgt := 134) dX12_pressOn_126 (by decide) (fun c_126 => ?_) (fun c_126 => ?_)
      · refine a_iloadn_2 (pc := 134) dX12_pressOn_134 ?_
        exact a_iret (pc := 135) dX12_pressOn_135 rfl (zf hz) (hfin _ _ hm (by rw [if_neg (Int32.not_lt.mpr c_116), if_neg (show ¬ (9 : Int32) < _ from Int32.not_lt.mpr c_126)]))
      · refine a_bipush (pc := 129) (v := nI 9) dX12_pressOn_129 (by decide) ?_
        refine a_goto (pc := 131) (tgt := 135) dX12_pressOn_131 (by decide) ?_
        exact a_iret (pc := 135) dX12_pressOn_135 rfl (zf hz) (hfin _ _ hm (by rw [if_neg (Int32.not_lt.mpr c_116), if_pos (show (9 : Int32) < _ from Int32.not_le.mp c_126)]; rfl))
    · refine a_iconst (pc := 119) (v := nI 0) dX12_pressOn_119 (by decide) ?_
      refine a_goto (pc := 120) (tgt := 135) dX12_pressOn_120 (by decide) ?_
      exact a_iret (pc := 135) dX12_pressOn_135 rfl (zf hz) (hfin _ _ hm (by rw [if_pos (Int32.not_le.mp c_116)]; rfl))
  · have hbyt : BYT b 0 n (chA b.2.1.2.2.1 n) := ⟨hn, chA_0 _ _, fun i => by unfold chA; split; (· rename_i q; exact qL3 i q); (· omega), Or.inr ⟨rfl, fun i hi => (if_pos hi).symm⟩⟩
    have hAG := txt_ag (chA_0 _ _) hn qL4
    refine a_aloadn_0 (pc := 0) dX12_pressOn_0 ?_
    refine a_iloadn_1 (pc := 1) dX12_pressOn_1 ?_
    refine cv_X12_199 (pc := 2) rfl dX12_pressOn_2 hm.2.2.1 (Nat.le_of_ble_eq_true rfl) ?_
    refine m_darkBeside (by omega) hz hm hv okv (by omega) ?_
    refine a_aloadn_0 (pc := 5) dX12_pressOn_5 ?_
    refine mg_9 hm rfl dX12_pressOn_6 ?_
    refine a_bipush (pc := 9) (v := nI 36) dX12_pressOn_9 (by decide) ?_
    refine a_iloadn_1 (pc := 11) dX12_pressOn_11 ?_
    refine n_iadd dX12_pressOn_12 ?_
    refine ml_may (x := cG v r) hm dX12_pressOn_13 (by omega) (hv.1 r (by omega)).2.2.1 ?_
    refine a_iconst (pc := 14) (v := nI 3) dX12_pressOn_14 (by decide) ?_
    refine n_idiv dX12_pressOn_15 (by omega) (by decide) (by decide) ?_
    refine n_iadd dX12_pressOn_16 ?_
    refine a_aloadn_0 (pc := 17) dX12_pressOn_17 ?_
    refine a_iloadn_1 (pc := 18) dX12_pressOn_18 ?_
    refine cv_X12_202 (pc := 19) rfl dX12_pressOn_19 hm.2.2.1 (Nat.le_of_ble_eq_true rfl) ?_
    refine m_litBeside (by omega) hz hm hv okv (by omega) ?_
    refine a_isub (pc := 22) dX12_pressOn_22 ?_
    refine a_istoren_2 (pc := 23) dX12_pressOn_23 (by decide) (by first | rfl | trivial) ?_
    refine a_aloadn_0 (pc := 24) dX12_pressOn_24 ?_
    refine mg_84 (x := nI (n)) hm rfl dX12_pressOn_25 qL1 ?_
    refine n_if_lt (tgt := 115) dX12_pressOn_28 (by decide) (by omega) ?_
    refine a_aloadn_0 (pc := 31) dX12_pressOn_31 ?_
    refine mg_28 hm rfl dX12_pressOn_32 ?_
    refine a_iconst (pc := 35) (v := nI 0) dX12_pressOn_35 (by decide) ?_
    refine a_aloadn_0 (pc := 36) dX12_pressOn_36 ?_
    refine a_iloadn_1 (pc := 37) dX12_pressOn_37 ?_
    refine cv_X12_199 (pc := 38) rfl dX12_pressOn_38 hm.2.2.1 (Nat.le_of_ble_eq_true rfl) ?_
    refine m_darkBeside (by omega) hz hm hv okv (by omega) ?_
    refine ms_names (j := 0) (x := dB (cK v) r) hm dX12_pressOn_41 (by decide) (fun h1 hm1 => ?_)
    refine a_aloadn_0 (pc := 42) dX12_pressOn_42 ?_
    refine mg_28 hm1 rfl dX12_pressOn_43 ?_
    refine a_iconst (pc := 46) (v := nI 1) dX12_pressOn_46 (by decide) ?_
    refine a_aloadn_0 (pc := 47) dX12_pressOn_47 ?_
    refine a_iloadn_1 (pc := 48) dX12_pressOn_48 ?_
    refine cv_X12_202 (pc := 49) rfl dX12_pressOn_49 hm1.2.2.1 (Nat.le_of_ble_eq_true rfl) ?_
    refine m_litBeside (by omega) hz hm1 hv okv (by omega) ?_
    refine ms_names (j := 1) (x := lB (clit v) r) hm1 dX12_pressOn_52 (by decide) (fun h2 hm2 => ?_)
    refine a_aloadn_0 (pc := 53) dX12_pressOn_53 ?_
    refine mg_28 hm2 rfl dX12_pressOn_54 ?_
    refine a_iconst (pc := 57) (v := nI 2) dX12_pressOn_57 (by decide) ?_
    refine a_aloadn_0 (pc := 58) dX12_pressOn_58 ?_
    refine mg_9 hm2 rfl dX12_pressOn_59 ?_
    refine a_bipush (pc := 62) (v := nI 36) dX12_pressOn_62 (by decide) ?_
    refine a_iloadn_1 (pc := 64) dX12_pressOn_64 ?_
    refine n_iadd dX12_pressOn_65 ?_
    refine ml_may (x := cG v r) hm2 dX12_pressOn_66 (by omega) (hv.1 r (by omega)).2.2.1 ?_
    refine ms_names (j := 2) (x := cG v r) hm2 dX12_pressOn_67 (by decide) (fun h3 hm3 => ?_)
    refine a_aloadn_0 (pc := 68) dX12_pressOn_68 ?_
    refine mg_28 hm3 rfl dX12_pressOn_69 ?_
    refine a_iconst (pc := 72) (v := nI 3) dX12_pressOn_72 (by decide) ?_
    refine a_aloadn_0 (pc := 73) dX12_pressOn_73 ?_
    refine mg_9 hm3 rfl dX12_pressOn_74 ?_
    refine a_bipush (pc := 77) (v := nI 72) dX12_pressOn_77 (by decide) ?_
    refine a_iloadn_1 (pc := 79) dX12_pressOn_79 ?_
    refine n_iadd dX12_pressOn_80 ?_
    refine ml_may (x := (cC v r).toNat) hm3 dX12_pressOn_81 (by omega) (hv.1 r (by omega)).2.2.2 ?_
    refine ms_names (j := 3) (x := (cC v r).toNat) hm3 dX12_pressOn_82 (by decide) (fun h4 hm4 => ?_)
    refine a_aloadn_0 (pc := 83) dX12_pressOn_83 ?_
    refine mg_28 hm4 rfl dX12_pressOn_84 ?_
    refine a_iconst (pc := 87) (v := nI 4) dX12_pressOn_87 (by decide) ?_
    refine a_aloadn_0 (pc := 88) dX12_pressOn_88 ?_
    refine mg_31 hm4 rfl dX12_pressOn_89 ?_
    refine a_iloadn_1 (pc := 92) dX12_pressOn_92 ?_
    refine ml_wax (x := cW v r) hm4 dX12_pressOn_93 (by omega) (hv.1 r (by omega)).1 ?_
    refine ms_names (j := 4) (x := cW v r) hm4 dX12_pressOn_94 (by decide) (fun h5 hm5 => ?_)
    refine a_aloadn_0 (pc := 95) dX12_pressOn_95 ?_
    refine mg_28 hm5 rfl dX12_pressOn_96 ?_
    refine a_iconst (pc := 99) (v := nI 5) dX12_pressOn_99 (by decide) ?_
    refine a_aloadn_0 (pc := 100) dX12_pressOn_100 ?_
    refine mg_188 (x := cT v) hm5 rfl dX12_pressOn_101 hv.2.2.2 ?_
    refine ms_names (j := 5) (x := cT v) hm5 dX12_pressOn_104 (by decide) (fun h6 hm6 => ?_)
    refine a_aloadn_0 (pc := 105) dX12_pressOn_105 ?_
    refine a_iconst (pc := 106) (v := nI 0) dX12_pressOn_106 (by decide) ?_
    refine a_topi 0 (by decide) ?_
    refine a_aloadn_0 (pc := 107) dX12_pressOn_107 ?_
    refine mg_84 (x := nI (n)) hm6 rfl dX12_pressOn_108 qL1 ?_
    refine cv_X12_185 (pc := 111) rfl dX12_pressOn_111 hm6.2.2.1 (Nat.le_of_ble_eq_true rfl) ?_
    refine m_workOut (by omega) hz hbyt hm6 (fun h9 x p9 hm9 hwo => ?_)
    rw [qL4] at hwo
    obtain ⟨-, hwo⟩ := hwo
    have hF : prs F v r = hN x := by
      rw [qL5, hwo]
      show hN ((A (nmV6 _ _ _ _ _ _)).getD 0) = _
      rw [hAG (nmV6 _ _ _ _ _ _) _ ?_]
      intro j hj
      rcases (show j = 0 ∨ j = 1 ∨ j = 2 ∨ j = 3 ∨ j = 4 ∨ j = 5 by omega) with rfl | rfl | rfl | rfl | rfl | rfl <;> rfl
    have hfin : ∀ (y : Int32) (p9 : MP), MS G h0 h9 (b, p9, t, o) → y = (if x < 0 then 0 else if 9 < x then 9 else x) → Q (some (.int y)) h9 := fun y p9 H e => by
      rw [e, ← nI_hN, ← hF]; exact k _ p9 H
    refine a_istoren_2 (pc := 114) dX12_pressOn_114 (by decide) (by first | rfl | trivial) ?_
    refine a_iloadn_2 (pc := 115) dX12_pressOn_115 ?_
    refine a_if_ge (pc := 116) (tgt := 123) dX12_pressOn_116 (by decide) (fun c_116 => ?_) (fun c_116 => ?_)
    · refine a_iloadn_2 (pc := 123) dX12_pressOn_123 ?_
      refine a_bipush (pc := 124) (v := nI 9) dX12_pressOn_124 (by decide) ?_
      refine a_icmp_le (pc := 126) (tgt := 134) dX12_pressOn_126 (by decide) (fun c_126 => ?_) (fun c_126 => ?_)
      · refine a_iloadn_2 (pc := 134) dX12_pressOn_134 ?_
        exact a_iret (pc := 135) dX12_pressOn_135 rfl (zf hz) (hfin _ _ hm9 (by rw [if_neg (Int32.not_lt.mpr c_116), if_neg (show ¬ (9 : Int32) < _ from Int32.not_lt.mpr c_126)]))
      · refine a_bipush (pc := 129) (v := nI 9) dX12_pressOn_129 (by decide) ?_
        refine a_goto (pc := 131) (tgt := 135) dX12_pressOn_131 (by decide) ?_
        exact a_iret (pc := 135) dX12_pressOn_135 rfl (zf hz) (hfin _ _ hm9 (by rw [if_neg (Int32.not_lt.mpr c_116), if_pos (show (9 : Int32) < _ from Int32.not_le.mp c_126)]; rfl))
    · refine a_iconst (pc := 119) (v := nI 0) dX12_pressOn_119 (by decide) ?_
      refine a_goto (pc := 120) (tgt := 135) dX12_pressOn_120 (by decide) ?_
      exact a_iret (pc := 135) dX12_pressOn_135 rfl (zf hz) (hfin _ _ hm9 (by rw [if_pos (Int32.not_le.mp c_116)]; rfl))
def tn (F : Lf) (v : Cv) (r : Nat) : Nat := if clit v r = true then 3 else if hgot v r = true then 2 else if hfell F v r = true then 1 else 0
theorem tn_cases (F : Lf) (v : Cv) (r : Nat) : (clit v r = true ∧ hgot v r = false ∧ hfell F v r = false ∧ cK v r = false ∧ tn F v r = 3) ∨ (clit v r = false ∧ hgot v r = true ∧ hfell F v r = false ∧ cK v r = true ∧ tn F v r = 2) ∨ (clit v r = false ∧ hgot v r = false ∧ hfell F v r = true ∧ cK v r = false ∧ tn F v r = 1) ∨ (clit v r = false ∧ hgot v r = false ∧ hfell F v r = false ∧ tn F v r = 0) := by
  unfold tn
  by_cases h1 : clit v r = true
  · have hk : cK v r = false := by cases q : cK v r <;> simp [clit, q] at h1 ⊢
    have hg : hgot v r = false := by simp [hgot, hk]
    have hf : hfell F v r = false := by simp only [hfell, h1]; simp
    exact Or.inl ⟨h1, hg, hf, hk, if_pos h1⟩
  · rw [Bool.not_eq_true] at h1
    by_cases h2 : hgot v r = true
    · have hk : cK v r = true := by cases q : cK v r <;> simp [hgot, q] at h2 ⊢
      have hf : hfell F v r = false := by simp [hfell, hk]
      refine Or.inr (Or.inl ⟨h1, h2, hf, hk, ?_⟩)
      rw [if_neg (by rw [h1]; simp), if_pos h2]
    · rw [Bool.not_eq_true] at h2
      by_cases h3 : hfell F v r = true
      · have hk : cK v r = false := by cases q : cK v r <;> simp [hfell, q] at h3 ⊢
        refine Or.inr (Or.inr (Or.inl ⟨h1, h2, h3, hk, ?_⟩))
        rw [if_neg (by rw [h1]; simp), if_neg (by rw [h2]; simp), if_pos h3]
      · rw [Bool.not_eq_true] at h3
        refine Or.inr (Or.inr (Or.inr ⟨h1, h2, h3, ?_⟩))
        rw [if_neg (by rw [h1]; simp), if_neg (by rw [h2]; simp), if_neg (by rw [h3]; simp)]
theorem up1 {w1 f g : Nat → Nat} {r x : Nat} (h : ∀ j, j < 36 → w1 j = if j < r then f j else g j) (e : x = f r) : ∀ j, j < 36 → va_up w1 r x j = if j < r + 1 then f j else g j := by
  intro j hj
  unfold va_up
  by_cases q : j = r
  · rw [if_pos q, if_pos (by omega), e, q]
  · rw [if_neg q, h j hj]
    by_cases q2 : j < r
    · rw [if_pos q2, if_pos (by omega)]
    · rw [if_neg q2, if_neg (by omega)]
theorem upn {w1 f g : Nat → Nat} {r : Nat} (h : ∀ j, j < 36 → w1 j = if j < r then f j else g j) (e : g r = f r) : ∀ j, j < 36 → w1 j = if j < r + 1 then f j else g j := by
  intro j hj
  rw [h j hj]
  by_cases q : j = r
  · subst q
    rw [if_neg (Nat.lt_irrefl j), if_pos (Nat.lt_succ_self j), e]
  · by_cases q2 : j < r
    · rw [if_pos q2, if_pos (by omega)]
    · rw [if_neg q2, if_neg (by omega)]
theorem bsum_congr {v u : Cv} {f : Nat → Bool} (h : ∀ i, hless v i = hless u i) : ∀ n, bsum v f n = bsum u f n
  | 0 => rfl
  | n + 1 => by rw [bsum, bsum, bsum_congr h n, h n]
theorem okC_hour {F : Lf} {v : Cv} (h : okC v) : okC (chour F v) := by
  obtain ⟨h1, h2, h3, h4, h5, h6, h7⟩ := h
  have hb := bsum_le (hloop F v 36) (clit v) ⟨h1, h2, h3, h4, h5, h6, Nat.zero_le _⟩ 36
  refine ⟨fun k => ?_, h2, fun k hk => ⟨?_, (h3 k hk).2⟩, h4, h5, ?_, ?_⟩
  · have := h1 k
    show hW v k ≤ 99
    unfold hW
    split
    · omega
    · split <;> omega
  · show hW v k = 0
    unfold hW
    rw [if_neg (fun q => absurd q.1 (by omega)), if_neg (fun q => absurd q.1 (by omega))]
    exact (h3 k hk).1
  · show (if cT v < 11 then cT v + 1 else 0) ≤ 11
    split <;> omega
  · show 0 + bsum (hloop F v 36) (clit v) 36 ≤ 10000
    omega
theorem LM_le {b : MB} {F : Lf} (h : LM b F) (d l g c w hh : Nat) : F d l g c w hh ≤ 9 := by
  rcases h with ⟨_, rfl⟩ | ⟨n, A, _, _, _, _, rfl⟩
  · exact hN_le _
  · exact hN_le _
set_option maxRecDepth 100000 in
set_option maxHeartbeats 4000000 in
theorem m_goesHour {G : Cx} {d : Nat} {h h0 : List va_E} {b : MB} {p : MP} {t : MT} {o : MO} {Q : Option Value → List va_E → Prop} (hd : 66 ≤ d) (hz : gz G = false) (hm : MS G h0 h (b, p, t, o)) {v : Cv} (hv : HV (b, p, t, o) v) (okv : okC v) {F : Lf} (hL : LM b F) (k : ∀ h1 p1 t1, MS G h0 h1 (b, p1, t1, o) → HV (b, p1, t1, o) (chour F v) → (t1.2.2.2.1 = ctn (hfell F v) 36 ∧ t1.2.2.2.2.1 = ctn (hgot v) 36 ∧ t1.2.2.2.2.2.1 = bsum v (clit v) 36) → Q none h1) : AM G yX12_goesHour cX12_goesHour 3 none d 0 0 [.ref (gB G + 80)] h Q := by
  obtain ⟨d, rfl, he⟩ := dpos hd
  have t9 := okv.2.2.2.2.2.1
  have lp2 : ∀ (n r : Nat) (h1 : List va_E) (p1 : MP) (w1 d1 tu : Nat → Nat), 36 - r < n → r ≤ 36 → (∀ j, j < 36 → tu j = tn F v j) → MS G h0 h1 (b, p1, (w1, d1, t.2.2.1, ctn (hfell F v) r, ctn (hgot v) r, bsum v (clit v) r, tu), o) → (∀ j, j < 36 → w1 j = if j < r then hW v j else cW v j) → (∀ j, j < 36 → d1 j = if j < r then (hK F v j).toNat else (cK v j).toNat) → AW G yX12_goesHour cX12_goesHour 3 none (rmx (d + 1) 0 0) (ZQ G 0 0 (h.length + 0) Q) 0 0 104 [some (.ref (gB G + 80)), some (.int (nI (r))), none] [] h1 := by
    intro n
    induction n with
    | zero => intro r h1 p1 w1 d1 tu hn; exact absurd hn (Nat.not_lt_zero _)
    | succ n ih =>
      intro r h1 p1 w1 d1 tu hn hr htu hm1 hw1 hd1
      by_cases hr36 : r = 36
      · subst hr36
        refine a_iloadn_1 (pc := 104) dX12_goesHour_104 ?_
        refine a_bipush (pc := 105) (v := nI 36) dX12_goesHour_105 (by decide) ?_
        refine n_icmp_ge (tgt := 242) dX12_goesHour_107 (by decide) (by omega) (by decide) (fun c_107 => ?_) (fun c_107 => by omega)
        refine a_aloadn_0 (pc := 242) dX12_goesHour_242 ?_
        refine a_aloadn_0 (pc := 243) dX12_goesHour_243 ?_
        refine mg_188 (x := cT v) hm1 rfl dX12_goesHour_244 hv.2.2.2 ?_
        refine a_iconst (pc := 247) (v := nI 1) dX12_goesHour_247 (by decide) ?_
        refine n_iadd dX12_goesHour_248 ?_
        refine a_bipush (pc := 249) (v := nI 12) dX12_goesHour_249 (by decide) ?_
        refine n_irem dX12_goesHour_251 (by omega) (by decide) (by decide) ?_
        refine a_topi (nI (if cT v < 11 then cT v + 1 else 0)) (congrArg nI (by split <;> omega)) ?_
        refine mp_188 (x := if cT v < 11 then cT v + 1 else 0) hm1 rfl dX12_goesHour_252 (fun h4 hm4 => ?_)
        exact a_vret (pc := 255) dX12_goesHour_255 rfl (zf hz) (k _ _ _ hm4 ⟨fun j hj => ⟨(hw1 j hj).trans (if_pos (by omega)), (hd1 j hj).trans (if_pos (by omega)), (hv.1 j hj).2.2.1, (hv.1 j hj).2.2.2⟩, hv.2.1, hv.2.2.1, rfl⟩ ⟨rfl, rfl, rfl⟩)
      · have htr := htu r (by omega)
        have g9 := okv.2.1 r
        have w9 := okv.1 r
        rcases tn_cases F v r with ⟨g1, g2, g3, g4, g5⟩ | ⟨g1, g2, g3, g4, g5⟩ | ⟨g1, g2, g3, g4, g5⟩ | ⟨g1, g2, g3, g5⟩
        · refine a_iloadn_1 (pc := 104) dX12_goesHour_104 ?_
          refine a_bipush (pc := 105) (v := nI 36) dX12_goesHour_105 (by decide) ?_
          refine n_icmp_ge (tgt := 242) dX12_goesHour_107 (by decide) (by omega) (by decide) (fun c_107 => by omega) (fun c_107 => ?_)
          refine a_aloadn_0 (pc := 110) dX12_goesHour_110 ?_
          refine mg_37 hm1 rfl dX12_goesHour_111 ?_
          refine a_iloadn_1 (pc := 114) dX12_goesHour_114 ?_
          refine ml_turns (x := tu r) hm1 dX12_goesHour_115 (by omega) rfl ?_
          refine a_iconst (pc := 116) (v := nI 1) dX12_goesHour_116 (by decide) ?_
          refine n_icmp_ne (tgt := 137) dX12_goesHour_117 (by decide) (by omega) (by decide) (fun c_117 => ?_) (fun c_117 => by omega)
          refine a_aloadn_0 (pc := 137) dX12_goesHour_137 ?_
          refine mg_37 hm1 rfl dX12_goesHour_138 ?_
          refine a_iloadn_1 (pc := 141) dX12_goesHour_141 ?_
          refine ml_turns (x := tu r) hm1 dX12_goesHour_142 (by omega) rfl ?_
          refine a_iconst (pc := 143) (v := nI 2) dX12_goesHour_143 (by decide) ?_
          refine n_icmp_ne (tgt := 171) dX12_goesHour_144 (by decide) (by omega) (by decide) (fun c_144 => ?_) (fun c_144 => by omega)
          refine a_aloadn_0 (pc := 171) dX12_goesHour_171 ?_
          refine mg_37 hm1 rfl dX12_goesHour_172 ?_
          refine a_iloadn_1 (pc := 175) dX12_goesHour_175 ?_
          refine ml_turns (x := tu r) hm1 dX12_goesHour_176 (by omega) rfl ?_
          refine a_iconst (pc := 177) (v := nI 3) dX12_goesHour_177 (by decide) ?_
          refine n_icmp_ne (tgt := 236) dX12_goesHour_178 (by decide) (by omega) (by decide) (fun c_178 => by omega) (fun c_178 => ?_)
          refine a_iconst (pc := 181) (v := nI 1) dX12_goesHour_181 (by decide) ?_
          refine a_aloadn_0 (pc := 182) dX12_goesHour_182 ?_
          refine mg_9 hm1 rfl dX12_goesHour_183 ?_
          refine a_bipush (pc := 186) (v := nI 36) dX12_goesHour_186 (by decide) ?_
          refine a_iloadn_1 (pc := 188) dX12_goesHour_188 ?_
          refine n_iadd dX12_goesHour_189 ?_
          refine ml_may (x := cG v r) hm1 dX12_goesHour_190 (by omega) (hv.1 r (by omega)).2.2.1 ?_
          refine a_iconst (pc := 191) (v := nI 5) dX12_goesHour_191 (by decide) ?_
          refine n_idiv dX12_goesHour_192 (by omega) (by decide) (by decide) ?_
          refine n_iadd dX12_goesHour_193 ?_
          refine a_istoren_2 (pc := 194) dX12_goesHour_194 (by decide) (by first | rfl | trivial) ?_
          refine a_iloadn_2 (pc := 195) dX12_goesHour_195 ?_
          refine a_aloadn_0 (pc := 196) dX12_goesHour_196 ?_
          refine mg_31 hm1 rfl dX12_goesHour_197 ?_
          refine a_iloadn_1 (pc := 200) dX12_goesHour_200 ?_
          refine ml_wax (x := cW v r) hm1 dX12_goesHour_201 (by omega) (show w1 r = cW v r by rw [hw1 r (by omega), if_neg (Nat.lt_irrefl r)]) ?_
          refine n_icmp_le (tgt := 214) dX12_goesHour_202 (by decide) (by omega) (by omega) (fun c_202 => ?_) (fun c_202 => ?_)
          · refine a_iloadn_2 (pc := 214) dX12_goesHour_214 ?_
            refine a_topi (nI (hless v r)) (congrArg nI (by unfold hless; omega)) ?_
            refine a_istoren_2 (pc := 215) dX12_goesHour_215 (by decide) (by first | rfl | trivial) ?_
            refine a_aloadn_0 (pc := 216) dX12_goesHour_216 ?_
            refine mg_31 hm1 rfl dX12_goesHour_217 ?_
            refine a_iloadn_1 (pc := 220) dX12_goesHour_220 ?_
            refine a_dup2 (pc := 221) dX12_goesHour_221 rfl rfl ?_
            refine ml_wax (x := cW v r) hm1 dX12_goesHour_222 (by omega) (show w1 r = cW v r by rw [hw1 r (by omega), if_neg (Nat.lt_irrefl r)]) ?_
            refine a_iloadn_2 (pc := 223) dX12_goesHour_223 ?_
            refine n_isub dX12_goesHour_224 (by unfold hless; omega) ?_
            refine ms_wax (j := r) (x := (cW v r) - (hless v r)) hm1 dX12_goesHour_225 (by omega) (fun h4 hm4 => ?_)
            refine a_aloadn_0 (pc := 226) dX12_goesHour_226 ?_
            refine a_dup (pc := 227) dX12_goesHour_227 rfl ?_
            refine mg_211 (x := bsum v (clit v) r) hm4 rfl dX12_goesHour_228 rfl ?_
            refine a_iloadn_2 (pc := 231) dX12_goesHour_231 ?_
            refine n_iadd dX12_goesHour_232 ?_
            refine mp_211 (x := bsum v (clit v) r + (hless v r)) hm4 rfl dX12_goesHour_233 (fun h5 hm5 => ?_)
            refine a_iinc_1 (pc := 236) (v := nI (r + 1)) dX12_goesHour_236 (nI_add _ _) (by decide) (by first | rfl | trivial) ?_
            refine a_goto (pc := 239) (tgt := 104) dX12_goesHour_239 (by decide) ?_
            refine a_ls (ls' := [some _, some _, none, none]) ⟨rfl, rfl, trivial⟩ ?_
            exact ih (r + 1) _ p1 _ _ tu (by omega) (by omega) htu (by rw [ctn, ctn, bsum, g1, g2, g3]; exact hm5) (up1 hw1 (by unfold hW; rw [if_neg (by rw [g2]; simp), if_pos ⟨by omega, g1⟩])) (upn hd1 (by unfold hK; rw [g2, g3, g4]; simp))
          · refine a_aloadn_0 (pc := 205) dX12_goesHour_205 ?_
            refine mg_31 hm1 rfl dX12_goesHour_206 ?_
            refine a_iloadn_1 (pc := 209) dX12_goesHour_209 ?_
            refine ml_wax (x := cW v r) hm1 dX12_goesHour_210 (by omega) (show w1 r = cW v r by rw [hw1 r (by omega), if_neg (Nat.lt_irrefl r)]) ?_
            refine a_goto (pc := 211) (tgt := 215) dX12_goesHour_211 (by decide) ?_
            refine a_topi (nI (hless v r)) (congrArg nI (by unfold hless; omega)) ?_
            refine a_istoren_2 (pc := 215) dX12_goesHour_215 (by decide) (by first | rfl | trivial) ?_
            refine a_aloadn_0 (pc := 216) dX12_goesHour_216 ?_
            refine mg_31 hm1 rfl dX12_goesHour_217 ?_
            refine a_iloadn_1 (pc := 220) dX12_goesHour_220 ?_
            refine a_dup2 (pc := 221) dX12_goesHour_221 rfl rfl ?_
            refine ml_wax (x := cW v r) hm1 dX12_goesHour_222 (by omega) (show w1 r = cW v r by rw [hw1 r (by omega), if_neg (Nat.lt_irrefl r)]) ?_
            refine a_iloadn_2 (pc := 223) dX12_goesHour_223 ?_
            refine n_isub dX12_goesHour_224 (by unfold hless; omega) ?_
            refine ms_wax (j := r) (x := (cW v r) - (hless v r)) hm1 dX12_goesHour_225 (by omega) (fun h4 hm4 => ?_)
            refine a_aloadn_0 (pc := 226) dX12_goesHour_226 ?_
            refine a_dup (pc := 227) dX12_goesHour_227 rfl ?_
            refine mg_211 (x := bsum v (clit v) r) hm4 rfl dX12_goesHour_228 rfl ?_
            refine a_iloadn_2 (pc := 231) dX12_goesHour_231 ?_
            refine n_iadd dX12_goesHour_232 ?_
            refine mp_211 (x := bsum v (clit v) r + (hless v r)) hm4 rfl dX12_goesHour_233 (fun h5 hm5 => ?_)
            refine a_iinc_1 (pc := 236) (v := nI (r + 1)) dX12_goesHour_236 (nI_add _ _) (by decide) (by first | rfl | trivial) ?_
            refine a_goto (pc := 239) (tgt := 104) dX12_goesHour_239 (by decide) ?_
            refine a_ls (ls' := [some _, some _, none, none]) ⟨rfl, rfl, trivial⟩ ?_
            exact ih (r + 1) _ p1 _ _ tu (by omega) (by omega) htu (by rw [ctn, ctn, bsum, g1, g2, g3]; exact hm5) (up1 hw1 (by unfold hW; rw [if_neg (by rw [g2]; simp), if_pos ⟨by omega, g1⟩])) (upn hd1 (by unfold hK; rw [g2, g3, g4]; simp))
        · refine a_iloadn_1 (pc := 104) dX12_goesHour_104 ?_
          refine a_bipush (pc := 105) (v := nI 36) dX12_goesHour_105 (by decide) ?_
          refine n_icmp_ge (tgt := 242) dX12_goesHour_107 (by decide) (by omega) (by decide) (fun c_107 => by omega) (fun c_107 => ?_)
          refine a_aloadn_0 (pc := 110) dX12_goesHour_110 ?_
          refine mg_37 hm1 rfl dX12_goesHour_111 ?_
          refine a_iloadn_1 (pc := 114) dX12_goesHour_114 ?_
          refine ml_turns (x := tu r) hm1 dX12_goesHour_115 (by omega) rfl ?_
          refine a_iconst (pc := 116) (v := nI 1) dX12_goesHour_116 (by decide) ?_
          refine n_icmp_ne (tgt := 137) dX12_goesHour_117 (by decide) (by omega) (by decide) (fun c_117 => ?_) (fun c_117 => by omega)
          refine a_aloadn_0 (pc := 137) dX12_goesHour_137 ?_
          refine mg_37 hm1 rfl dX12_goesHour_138 ?_
          refine a_iloadn_1 (pc := 141) dX12_goesHour_141 ?_
          refine ml_turns (x := tu r) hm1 dX12_goesHour_142 (by omega) rfl ?_
          refine a_iconst (pc := 143) (v := nI 2) dX12_goesHour_143 (by decide) ?_
          refine n_icmp_ne (tgt := 171) dX12_goesHour_144 (by decide) (by omega) (by decide) (fun c_144 => by omega) (fun c_144 => ?_)
          refine a_aloadn_0 (pc := 147) dX12_goesHour_147 ?_
          refine mg_34 hm1 rfl dX12_goesHour_148 ?_
          refine a_iloadn_1 (pc := 151) dX12_goesHour_151 ?_
          refine a_iconst (pc := 152) (v := nI 0) dX12_goesHour_152 (by decide) ?_
          refine ms_isDark (j := r) (x := 0) hm1 dX12_goesHour_153 (by omega) (fun h4 hm4 => ?_)
          refine a_aloadn_0 (pc := 154) dX12_goesHour_154 ?_
          refine mg_31 hm4 rfl dX12_goesHour_155 ?_
          refine a_iloadn_1 (pc := 158) dX12_goesHour_158 ?_
          refine a_iconst (pc := 159) (v := nI 0) dX12_goesHour_159 (by decide) ?_
          refine ms_wax (j := r) (x := 0) hm4 dX12_goesHour_160 (by omega) (fun h5 hm5 => ?_)
          refine a_aloadn_0 (pc := 161) dX12_goesHour_161 ?_
          refine a_dup (pc := 162) dX12_goesHour_162 rfl ?_
          refine mg_208 (x := ctn (hgot v) r) hm5 rfl dX12_goesHour_163 rfl ?_
          refine a_iconst (pc := 166) (v := nI 1) dX12_goesHour_166 (by decide) ?_
          refine n_iadd dX12_goesHour_167 ?_
          refine mp_208 (x := ctn (hgot v) r + 1) hm5 rfl dX12_goesHour_168 (fun h6 hm6 => ?_)
          refine a_aloadn_0 (pc := 171) dX12_goesHour_171 ?_
          refine mg_37 hm6 rfl dX12_goesHour_172 ?_
          refine a_iloadn_1 (pc := 175) dX12_goesHour_175 ?_
          refine ml_turns (x := tu r) hm6 dX12_goesHour_176 (by omega) rfl ?_
          refine a_iconst (pc := 177) (v := nI 3) dX12_goesHour_177 (by decide) ?_
          refine n_icmp_ne (tgt := 236) dX12_goesHour_178 (by decide) (by omega) (by decide) (fun c_178 => ?_) (fun c_178 => by omega)
          refine a_iinc_1 (pc := 236) (v := nI (r + 1)) dX12_goesHour_236 (nI_add _ _) (by decide) (by first | rfl | trivial) ?_
          refine a_goto (pc := 239) (tgt := 104) dX12_goesHour_239 (by decide) ?_
          exact ih (r + 1) _ p1 _ _ tu (by omega) (by omega) htu (by rw [ctn, ctn, bsum, g1, g2, g3]; exact hm6) (up1 hw1 (by unfold hW; rw [if_pos ⟨by omega, g2⟩])) (up1 hd1 (by unfold hK; rw [g2, decide_eq_true (show r < 36 by omega)]; simp))
        · refine a_iloadn_1 (pc := 104) dX12_goesHour_104 ?_
          refine a_bipush (pc := 105) (v := nI 36) dX12_goesHour_105 (by decide) ?_
          refine n_icmp_ge (tgt := 242) dX12_goesHour_107 (by decide) (by omega) (by decide) (fun c_107 => by omega) (fun c_107 => ?_)
          refine a_aloadn_0 (pc := 110) dX12_goesHour_110 ?_
          refine mg_37 hm1 rfl dX12_goesHour_111 ?_
          refine a_iloadn_1 (pc := 114) dX12_goesHour_114 ?_
          refine ml_turns (x := tu r) hm1 dX12_goesHour_115 (by omega) rfl ?_
          refine a_iconst (pc := 116) (v := nI 1) dX12_goesHour_116 (by decide) ?_
          refine n_icmp_ne (tgt := 137) dX12_goesHour_117 (by decide) (by omega) (by decide) (fun c_117 => by omega) (fun c_117 => ?_)
          refine a_aloadn_0 (pc := 120) dX12_goesHour_120 ?_
          refine mg_34 hm1 rfl dX12_goesHour_121 ?_
          refine a_iloadn_1 (pc := 124) dX12_goesHour_124 ?_
          refine a_iconst (pc := 125) (v := nI 1) dX12_goesHour_125 (by decide) ?_
          refine ms_isDark (j := r) (x := 1) hm1 dX12_goesHour_126 (by omega) (fun h4 hm4 => ?_)
          refine a_aloadn_0 (pc := 127) dX12_goesHour_127 ?_
          refine a_dup (pc := 128) dX12_goesHour_128 rfl ?_
          refine mg_205 (x := ctn (hfell F v) r) hm4 rfl dX12_goesHour_129 rfl ?_
          refine a_iconst (pc := 132) (v := nI 1) dX12_goesHour_132 (by decide) ?_
          refine n_iadd dX12_goesHour_133 ?_
          refine mp_205 (x := ctn (hfell F v) r + 1) hm4 rfl dX12_goesHour_134 (fun h5 hm5 => ?_)
          refine a_aloadn_0 (pc := 137) dX12_goesHour_137 ?_
          refine mg_37 hm5 rfl dX12_goesHour_138 ?_
          refine a_iloadn_1 (pc := 141) dX12_goesHour_141 ?_
          refine ml_turns (x := tu r) hm5 dX12_goesHour_142 (by omega) rfl ?_
          refine a_iconst (pc := 143) (v := nI 2) dX12_goesHour_143 (by decide) ?_
          refine n_icmp_ne (tgt := 171) dX12_goesHour_144 (by decide) (by omega) (by decide) (fun c_144 => ?_) (fun c_144 => by omega)
          refine a_aloadn_0 (pc := 171) dX12_goesHour_171 ?_
          refine mg_37 hm5 rfl dX12_goesHour_172 ?_
          refine a_iloadn_1 (pc := 175) dX12_goesHour_175 ?_
          refine ml_turns (x := tu r) hm5 dX12_goesHour_176 (by omega) rfl ?_
          refine a_iconst (pc := 177) (v := nI 3) dX12_goesHour_177 (by decide) ?_
          refine n_icmp_ne (tgt := 236) dX12_goesHour_178 (by decide) (by omega) (by decide) (fun c_178 => ?_) (fun c_178 => by omega)
          refine a_iinc_1 (pc := 236) (v := nI (r + 1)) dX12_goesHour_236 (nI_add _ _) (by decide) (by first | rfl | trivial) ?_
          refine a_goto (pc := 239) (tgt := 104) dX12_goesHour_239 (by decide) ?_
          exact ih (r + 1) _ p1 _ _ tu (by omega) (by omega) htu (by rw [ctn, ctn, bsum, g1, g2, g3]; exact hm5) (upn hw1 (by unfold hW; rw [if_neg (by rw [g2]; simp), if_neg (by rw [g1]; simp)])) (up1 hd1 (by unfold hK; rw [g2, g3, decide_eq_true (show r < 36 by omega)]; simp))
        · refine a_iloadn_1 (pc := 104) dX12_goesHour_104 ?_
          refine a_bipush (pc := 105) (v := nI 36) dX12_goesHour_105 (by decide) ?_
          refine n_icmp_ge (tgt := 242) dX12_goesHour_107 (by decide) (by omega) (by decide) (fun c_107 => by omega) (fun c_107 => ?_)
          refine a_aloadn_0 (pc := 110) dX12_goesHour_110 ?_
          refine mg_37 hm1 rfl dX12_goesHour_111 ?_
          refine a_iloadn_1 (pc := 114) dX12_goesHour_114 ?_
          refine ml_turns (x := tu r) hm1 dX12_goesHour_115 (by omega) rfl ?_
          refine a_iconst (pc := 116) (v := nI 1) dX12_goesHour_116 (by decide) ?_
          refine n_icmp_ne (tgt := 137) dX12_goesHour_117 (by decide) (by omega) (by decide) (fun c_117 => ?_) (fun c_117 => by omega)
          refine a_aloadn_0 (pc := 137) dX12_goesHour_137 ?_
          refine mg_37 hm1 rfl dX12_goesHour_138 ?_
          refine a_iloadn_1 (pc := 141) dX12_goesHour_141 ?_
          refine ml_turns (x := tu r) hm1 dX12_goesHour_142 (by omega) rfl ?_
          refine a_iconst (pc := 143) (v := nI 2) dX12_goesHour_143 (by decide) ?_
          refine n_icmp_ne (tgt := 171) dX12_goesHour_144 (by decide) (by omega) (by decide) (fun c_144 => ?_) (fun c_144 => by omega)
          refine a_aloadn_0 (pc := 171) dX12_goesHour_171 ?_
          refine mg_37 hm1 rfl dX12_goesHour_172 ?_
          refine a_iloadn_1 (pc := 175) dX12_goesHour_175 ?_
          refine ml_turns (x := tu r) hm1 dX12_goesHour_176 (by omega) rfl ?_
          refine a_iconst (pc := 177) (v := nI 3) dX12_goesHour_177 (by decide) ?_
          refine n_icmp_ne (tgt := 236) dX12_goesHour_178 (by decide) (by omega) (by decide) (fun c_178 => ?_) (fun c_178 => by omega)
          refine a_iinc_1 (pc := 236) (v := nI (r + 1)) dX12_goesHour_236 (nI_add _ _) (by decide) (by first | rfl | trivial) ?_
          refine a_goto (pc := 239) (tgt := 104) dX12_goesHour_239 (by decide) ?_
          exact ih (r + 1) _ p1 _ _ tu (by omega) (by omega) htu (by rw [ctn, ctn, bsum, g1, g2, g3]; exact hm1) (upn hw1 (by unfold hW; rw [if_neg (by rw [g2]; simp), if_neg (by rw [g1]; simp)])) (upn hd1 (by unfold hK; rw [g2, g3]; simp))
  have lp : ∀ (n r : Nat) (h1 : List va_E) (p1 : MP) (tu : Nat → Nat), 36 - r < n → r ≤ 36 → MS G h0 h1 (b, p1, (t.1, t.2.1, t.2.2.1, 0, 0, 0, tu), o) → (∀ j, j < r → tu j = tn F v j) → AW G yX12_goesHour cX12_goesHour 3 none (rmx (d + 1) 0 0) (ZQ G 0 0 (h.length + 0) Q) 0 0 17 [some (.ref (gB G + 80)), some (.int (nI (r))), none] [] h1 := by
    intro n
    induction n with
    | zero => intro r h1 p1 tu hn; exact absurd hn (Nat.not_lt_zero _)
    | succ n ih =>
      intro r h1 p1 tu hn hr36 hm1 htu
      have kt9 : (cK v r).toNat ≤ 1 := Bool.toNat_le _
      refine a_iloadn_1 (pc := 17) dX12_goesHour_17 ?_
      refine a_bipush (pc := 18) (v := nI 36) dX12_goesHour_18 (by decide) ?_
      refine n_icmp_ge (tgt := 102) dX12_goesHour_20 (by decide) (by omega) (by decide) (fun c_20 => ?_) (fun c_20 => ?_)
      · obtain rfl : r = 36 := by omega
        refine a_iconst (pc := 102) (v := nI 0) dX12_goesHour_102 (by decide) ?_
        refine a_istoren_1 (pc := 103) dX12_goesHour_103 (by decide) (by first | rfl | trivial) ?_
        exact lp2 37 0 h1 p1 _ _ tu (by omega) (by omega) htu hm1 (fun j hj => by rw [if_neg (Nat.not_lt_zero j)]; exact (hv.1 j hj).1) (fun j hj => by rw [if_neg (Nat.not_lt_zero j)]; exact (hv.1 j hj).2.1)
      · refine a_aloadn_0 (pc := 23) dX12_goesHour_23 ?_
        refine mg_37 hm1 rfl dX12_goesHour_24 ?_
        refine a_iloadn_1 (pc := 27) dX12_goesHour_27 ?_
        refine a_aloadn_0 (pc := 28) dX12_goesHour_28 ?_
        refine a_iloadn_1 (pc := 29) dX12_goesHour_29 ?_
        refine cv_X12_196 (pc := 30) rfl dX12_goesHour_30 hm1.2.2.1 (Nat.le_of_ble_eq_true rfl) ?_
        refine m_isLit (by omega) hz hm1 hv okv (by omega) ?_
        refine b_if_eq (pc := 33) (tgt := 40) dX12_goesHour_33 (by decide) (fun c_33 => ?_) (fun c_33 => ?_)
        · refine a_aloadn_0 (pc := 40) dX12_goesHour_40 ?_
          refine mg_34 hm1 rfl dX12_goesHour_41 ?_
          refine a_iloadn_1 (pc := 44) dX12_goesHour_44 ?_
          refine ml_isDark (x := (cK v r).toNat) hm1 dX12_goesHour_45 (by omega) (hv.1 r (by omega)).2.1 ?_
          refine a_iconst (pc := 46) (v := nI 1) dX12_goesHour_46 (by decide) ?_
          refine n_icmp_ne (tgt := 74) dX12_goesHour_47 (by decide) (by omega) (by decide) (fun c_47 => ?_) (fun c_47 => ?_)
          · have ck : cK v r = false := by cases q : cK v r <;> simp [q] at c_47 ⊢
            refine a_aloadn_0 (pc := 74) dX12_goesHour_74 ?_
            refine a_iloadn_1 (pc := 75) dX12_goesHour_75 ?_
            refine cv_X12_214 (pc := 76) rfl dX12_goesHour_76 hm1.2.2.1 (Nat.le_of_ble_eq_true rfl) ?_
            refine m_pressOn (by omega) hz hm1 hv okv hL (by omega) (fun hx px hmx => ?_)
            have pr9 : prs F v r ≤ 9 := LM_le hL _ _ _ _ _ _
            refine a_aloadn_0 (pc := 79) dX12_goesHour_79 ?_
            refine mg_9 hmx rfl dX12_goesHour_80 ?_
            refine a_sipush (pc := 83) (v := nI 144) dX12_goesHour_83 (by decide) ?_
            refine ml_may (x := cH v) hmx dX12_goesHour_86 (by decide) hv.2.1 ?_
            have b9 := okv.2.2.2.1
            refine n_icmp_lt (tgt := 94) dX12_goesHour_87 (by decide) (by omega) (by omega) (fun c_87 => ?_) (fun c_87 => ?_)
            · refine a_iconst (pc := 94) (v := nI 0) dX12_goesHour_94 (by decide) ?_
              refine ms_turns (j := r) (x := 0) hmx dX12_goesHour_95 (by omega) (fun h4 hm4 => ?_)
              refine a_iinc_1 (pc := 96) (v := nI (r + 1)) dX12_goesHour_96 (nI_add _ _) (by decide) (by first | rfl | trivial) ?_
              refine a_goto (pc := 99) (tgt := 17) dX12_goesHour_99 (by decide) ?_
              exact ih (r + 1) _ _ _ (by omega) (by omega) hm4 (va_up_lt htu (Eq.symm (by unfold tn; rw [if_neg (by rw [c_33]; simp), if_neg (by simp [hgot, ck]), if_neg (by simp only [hfell, ck, c_33]; simp; omega)])))
            · refine a_iconst (pc := 90) (v := nI 1) dX12_goesHour_90 (by decide) ?_
              refine a_goto (pc := 91) (tgt := 95) dX12_goesHour_91 (by decide) ?_
              refine ms_turns (j := r) (x := 1) hmx dX12_goesHour_95 (by omega) (fun h4 hm4 => ?_)
              refine a_iinc_1 (pc := 96) (v := nI (r + 1)) dX12_goesHour_96 (nI_add _ _) (by decide) (by first | rfl | trivial) ?_
              refine a_goto (pc := 99) (tgt := 17) dX12_goesHour_99 (by decide) ?_
              exact ih (r + 1) _ _ _ (by omega) (by omega) hm4 (va_up_lt htu (Eq.symm (by unfold tn; rw [if_neg (by rw [c_33]; simp), if_neg (by simp [hgot, ck]), if_pos (by simp only [hfell, ck, c_33]; simp [c_87])])))
          · have ck : cK v r = true := by cases q : cK v r <;> simp [q] at c_47 ⊢
            refine a_aloadn_0 (pc := 50) dX12_goesHour_50 ?_
            refine a_iloadn_1 (pc := 51) dX12_goesHour_51 ?_
            refine cv_X12_202 (pc := 52) rfl dX12_goesHour_52 hm1.2.2.1 (Nat.le_of_ble_eq_true rfl) ?_
            refine m_litBeside (by omega) hz hm1 hv okv (by omega) ?_
            have lB9 := lB_lt (clit v) (show r < 36 by omega)
            refine a_aloadn_0 (pc := 55) dX12_goesHour_55 ?_
            refine mg_9 hm1 rfl dX12_goesHour_56 ?_
            refine a_sipush (pc := 59) (v := nI 145) dX12_goesHour_59 (by decide) ?_
            refine ml_may (x := cB v) hm1 dX12_goesHour_62 (by decide) hv.2.2.1 ?_
            have b9 := okv.2.2.2.2.1
            refine n_icmp_lt (tgt := 70) dX12_goesHour_63 (by decide) (by omega) (by omega) (fun c_63 => ?_) (fun c_63 => ?_)
            · refine a_iconst (pc := 70) (v := nI 0) dX12_goesHour_70 (by decide) ?_
              refine a_goto (pc := 71) (tgt := 95) dX12_goesHour_71 (by decide) ?_
              refine ms_turns (j := r) (x := 0) hm1 dX12_goesHour_95 (by omega) (fun h4 hm4 => ?_)
              refine a_iinc_1 (pc := 96) (v := nI (r + 1)) dX12_goesHour_96 (nI_add _ _) (by decide) (by first | rfl | trivial) ?_
              refine a_goto (pc := 99) (tgt := 17) dX12_goesHour_99 (by decide) ?_
              exact ih (r + 1) _ _ _ (by omega) (by omega) hm4 (va_up_lt htu (Eq.symm (by unfold tn; rw [if_neg (by rw [c_33]; simp), if_neg (by simp [hgot, ck]; omega), if_neg (by simp [hfell, ck])])))
            · refine a_iconst (pc := 66) (v := nI 2) dX12_goesHour_66 (by decide) ?_
              refine a_goto (pc := 67) (tgt := 95) dX12_goesHour_67 (by decide) ?_
              refine ms_turns (j := r) (x := 2) hm1 dX12_goesHour_95 (by omega) (fun h4 hm4 => ?_)
              refine a_iinc_1 (pc := 96) (v := nI (r + 1)) dX12_goesHour_96 (nI_add _ _) (by decide) (by first | rfl | trivial) ?_
              refine a_goto (pc := 99) (tgt := 17) dX12_goesHour_99 (by decide) ?_
              exact ih (r + 1) _ _ _ (by omega) (by omega) hm4 (va_up_lt htu (Eq.symm (by unfold tn; rw [if_neg (by rw [c_33]; simp), if_pos (by simp [hgot, ck, c_63])])))
        · refine a_iconst (pc := 36) (v := nI 3) dX12_goesHour_36 (by decide) ?_
          refine a_goto (pc := 37) (tgt := 95) dX12_goesHour_37 (by decide) ?_
          refine ms_turns (j := r) (x := 3) hm1 dX12_goesHour_95 (by omega) (fun h4 hm4 => ?_)
          refine a_iinc_1 (pc := 96) (v := nI (r + 1)) dX12_goesHour_96 (nI_add _ _) (by decide) (by first | rfl | trivial) ?_
          refine a_goto (pc := 99) (tgt := 17) dX12_goesHour_99 (by decide) ?_
          exact ih (r + 1) _ _ _ (by omega) (by omega) hm4 (va_up_lt htu (Eq.symm (by unfold tn; rw [if_pos c_33])))
  refine AM.of [some (.ref (gB G + 80)), none, none] pnX12 (Nat.le_of_ble_eq_true rfl) (by simp [lsub, lvI, Value.category]) ?_
  refine a_aloadn_0 (pc := 0) dX12_goesHour_0 ?_
  refine a_iconst (pc := 1) (v := nI 0) dX12_goesHour_1 (by decide) ?_
  refine mp_205 (x := 0) hm rfl dX12_goesHour_2 (fun h1 hm1 => ?_)
  refine a_aloadn_0 (pc := 5) dX12_goesHour_5 ?_
  refine a_iconst (pc := 6) (v := nI 0) dX12_goesHour_6 (by decide) ?_
  refine mp_208 (x := 0) hm1 rfl dX12_goesHour_7 (fun h2 hm2 => ?_)
  refine a_aloadn_0 (pc := 10) dX12_goesHour_10 ?_
  refine a_iconst (pc := 11) (v := nI 0) dX12_goesHour_11 (by decide) ?_
  refine mp_211 (x := 0) hm2 rfl dX12_goesHour_12 (fun h3 hm3 => ?_)
  refine a_iconst (pc := 15) (v := nI 0) dX12_goesHour_15 (by decide) ?_
  refine a_istoren_1 (pc := 16) dX12_goesHour_16 (by decide) (by first | rfl | trivial) ?_
  exact lp 37 0 _ p _ (by omega) (by omega) hm3 (fun j q => absurd q (Nat.not_lt_zero j))
/-- hours, one after another -/
def hrs (F : Lf) : Nat → Cv → Cv
  | 0, v => v
  | n + 1, v => chour F (hrs F n v)
theorem okC_hrs {F : Lf} {v : Cv} (h : okC v) : ∀ n, okC (hrs F n v)
  | 0 => h
  | n + 1 => okC_hour (okC_hrs h n)
set_option maxRecDepth 100000 in
set_option maxHeartbeats 4000000 in
theorem m_goesHours {G : Cx} {d : Nat} {h h0 : List va_E} {b : MB} {p : MP} {t : MT} {o : MO} {Q : Option Value → List va_E → Prop} (hd : 67 ≤ d) (hz : gz G = false) (hm : MS G h0 h (b, p, t, o)) {v : Cv} (hv : HV (b, p, t, o) v) (okv : okC v) {F : Lf} (hL : LM b F) {m : Nat} (hm9 : m < 1000) (k : ∀ h1 p1 t1, MS G h0 h1 (b, p1, t1, o) → HV (b, p1, t1, o) (hrs F m v) → Q none h1) : AM G yX12_goesHours cX12_goesHours 3 none d 0 0 [.ref (gB G + 80), .int (nI (m))] h Q := by
  obtain ⟨d, rfl, he⟩ := dpos hd
  have lp : ∀ (n : Nat) (i : Nat) (h1 : List va_E) (p1 : MP) (t1 : MT), m - i < n → (i ≤ m) → (MS G h0 h1 (b, p1, t1, o)) → (HV (b, p1, t1, o) (hrs F i v)) → AW G yX12_goesHours cX12_goesHours 3 none (rmx (d + 1) 0 0) (ZQ G 0 0 (h.length + 0) Q) 0 0 2 [some (.ref (gB G + 80)), some (.int (nI (m))), some (.int (nI (i)))] [] h1 := by
    intro n
    induction n with
    | zero => intro i h1 p1 t1 hn; exact absurd hn (Nat.not_lt_zero _)
    | succ n ih =>
      intro i h1 p1 t1 hn hi hm1 hv1
      refine a_iloadn_2 (pc := 2) dX12_goesHours_2 ?_
      refine a_iloadn_1 (pc := 3) dX12_goesHours_3 ?_
      refine n_icmp_ge (tgt := 17) dX12_goesHours_4 (by decide) (by omega) (by omega) (fun c_4 => ?_) (fun c_4 => ?_)
      · exact a_vret (pc := 17) dX12_goesHours_17 rfl (zf hz) (k _ _ _ hm1 (by rw [show m = i by omega]; exact hv1))
      · refine a_aloadn_0 (pc := 7) dX12_goesHours_7 ?_
        refine cv_X12_217 (pc := 8) rfl dX12_goesHours_8 hm1.2.2.1 (Nat.le_of_ble_eq_true rfl) ?_
        refine m_goesHour (by omega) hz hm1 hv1 (okC_hrs okv i) hL (fun h2 p2 t2 hm2 hv2 _ => ?_)
        refine a_iinc_2 (pc := 11) (v := nI (i + 1)) dX12_goesHours_11 (nI_add _ _) (by decide) (by first | rfl | trivial) ?_
        refine a_goto (pc := 14) (tgt := 2) dX12_goesHours_14 (by decide) ?_
        exact ih (i + 1) _ _ _ (by omega) (by omega) hm2 hv2
  refine AM.of [some (.ref (gB G + 80)), some (.int (nI (m))), none] pnX12 (Nat.le_of_ble_eq_true rfl) (by simp [lsub, lvI, Value.category]) ?_
  refine a_iconst (pc := 0) (v := nI 0) dX12_goesHours_0 (by decide) ?_
  refine a_istoren_2 (pc := 1) dX12_goesHours_1 (by decide) (by first | rfl | trivial) ?_
  exact lp (m + 1) 0 _ _ _ (by omega) (by omega) hm hv
