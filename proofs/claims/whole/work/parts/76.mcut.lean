/-! the reference: CUT, wayIn -/
theorem cl_back {c : Nat → Bool} {i : Nat} (h : c i = false) : va_up (va_up c i true) i false = c := by
  funext k
  unfold va_up
  by_cases e : k = i
  · rw [if_pos e, e, h]
  · rw [if_neg e, if_neg e]
theorem opC_c {v : Cv} {c : Nat → Bool} {k : Nat} (h : opC v c k = true) : c k = false := by
  unfold opC at h
  have := (Bool.and_eq_true_iff.mp h).2
  simpa using this
theorem opC_z (v : Cv) : opC v (fun _ => false) = opV v := by
  funext k
  unfold opC
  simp
set_option maxRecDepth 100000 in
set_option maxHeartbeats 4000000 in
theorem m_canCut {G : Cx} {h0 : List va_E} {b : MB} {p : MP} {t : MT} {v : Cv} {r : Nat} (hz : gz G = false) (okv : okC v) (hr : r < 36) : ∀ (c9 : Nat) {d : Nat} {h : List va_E} {o : MO} {f : Nat} {Q : Option Value → List va_E → Prop}, 10 + c9 ≤ d → MS G h0 h (b, p, t, o) → HV (b, p, t, o) v → f ≤ 36 → c9 < 1000 → (∀ h1 S (y : Bool), (y = true ↔ CUF (ga v) r c9 f (opC v o.2.1)) → MS G h0 h1 (b, p, t, (S, o.2)) → Q (some (.int (bI y))) h1) → AM G yX12_canCut cX12_canCut 6 (some .boolean) d 0 0 [.ref (gB G + 80), .int (nI r), .int (nI f), .int (nI c9)] h Q := by
  intro c9
  induction c9 with
  | zero =>
    intro d h o f Q hd hm hv hf hn9 k
    obtain ⟨d, rfl, he⟩ := dpos hd
    refine AM.of [some (.ref (gB G + 80)), some (.int (nI (r))), some (.int (nI (f))), some (.int (nI (0))), none, none] pnX12 (Nat.le_of_ble_eq_true rfl) (by simp [lsub, lvI, Value.category]) ?_
    refine a_aloadn_0 (pc := 0) dX12_canCut_0 ?_
    refine a_iloadn_1 (pc := 1) dX12_canCut_1 ?_
    refine cv_X12_266 (pc := 2) rfl dX12_canCut_2 hm.2.2.1 (Nat.le_of_ble_eq_true rfl) ?_
    refine m_stepsIn (by omega) hz hm hv okv (by omega) (fun h7 S7 y7 hw7 hm7 => ?_)
    have y36 := WL_le hw7
    have y0 := WL_0 hw7
    refine n_if_ne (tgt := 10) dX12_canCut_5 (by decide) (by omega) (fun c_5 => ?_) (fun c_5 => ?_)
    · refine a_iloadn_3 (pc := 10) dX12_canCut_10 ?_
      refine n_if_ne (tgt := 16) dX12_canCut_11 (by decide) (by decide) (fun c_11 => by omega) (fun c_11 => ?_)
      refine a_iconst (pc := 14) (v := nI 0) dX12_canCut_14 (by decide) ?_
      refine a_topi (bI false) (by decide) ?_
      exact a_zret (pc := 15) dX12_canCut_15 rfl (by first | rfl | exact bI_nar _ | decide) (zf hz) (k _ _ false ⟨fun q => (by cases q), fun q => absurd (y0.mpr (CUF_0 q)) (by omega)⟩ hm7)
    · refine a_iconst (pc := 8) (v := nI 1) dX12_canCut_8 (by decide) ?_
      refine a_topi (bI true) (by decide) ?_
      exact a_zret (pc := 9) dX12_canCut_9 rfl (by first | rfl | exact bI_nar _ | decide) (zf hz) (k _ _ true ⟨fun _ => CUF_now (y0.mp (by omega)), fun _ => rfl⟩ hm7)
  | succ c9 ihn =>
    intro d h o f Q hd hm hv hf hn9 k
    obtain ⟨d, rfl, he⟩ := dpos hd
    have hvS : ∀ S, HV (b, p, t, (S, o.2)) v := fun S => hv
    refine AM.of [some (.ref (gB G + 80)), some (.int (nI (r))), some (.int (nI (f))), some (.int (nI (c9 + 1))), none, none] pnX12 (Nat.le_of_ble_eq_true rfl) (by simp [lsub, lvI, Value.category]) ?_
    refine a_aloadn_0 (pc := 0) dX12_canCut_0 ?_
    refine a_iloadn_1 (pc := 1) dX12_canCut_1 ?_
    refine cv_X12_266 (pc := 2) rfl dX12_canCut_2 hm.2.2.1 (Nat.le_of_ble_eq_true rfl) ?_
    refine m_stepsIn (by omega) hz hm hv okv (by omega) (fun h7 S7 y7 hw7 hm7 => ?_)
    have y36 := WL_le hw7
    have y0 := WL_0 hw7
    refine n_if_ne (tgt := 10) dX12_canCut_5 (by decide) (by omega) (fun c_5 => ?_) (fun c_5 => ?_)
    · refine a_iloadn_3 (pc := 10) dX12_canCut_10 ?_
      refine n_if_ne (tgt := 16) dX12_canCut_11 (by decide) (by omega) (fun c_11 => ?_) (fun c_11 => by omega)
      refine a_iloadn_2 (pc := 16) dX12_canCut_16 ?_
      refine a_istore_4 (pc := 17) dX12_canCut_17 (by decide) (by first | rfl | trivial) ?_
      have lp : ∀ (n : Nat) (x : Nat) (S : Nat → Nat) (h1 : List va_E), 37 - x < n → (f ≤ x ∧ x ≤ 36) → (CUF (ga v) r (c9 + 1) f (opC v o.2.1) → CUF (ga v) r (c9 + 1) x (opC v o.2.1)) → (MS G h0 h1 (b, p, t, (S, o.2))) → AW G yX12_canCut cX12_canCut 6 (some .boolean) (rmx (d + 1) 0 0) (ZQ G 0 0 (h.length + 0) Q) 0 0 19 [some (.ref (gB G + 80)), some (.int (nI (r))), some (.int (nI (f))), some (.int (nI (c9 + 1))), some (.int (nI (x))), none] [] h1 := by
        intro n
        induction n with
        | zero => intro x S h1 hn; exact absurd hn (Nat.not_lt_zero _)
        | succ n ih =>
          intro x S h1 hn hx hC hm1
          refine a_iload_4 (pc := 19) dX12_canCut_19 ?_
          refine a_bipush (pc := 21) (v := nI 36) dX12_canCut_21 (by decide) ?_
          refine n_icmp_ge (tgt := 84) dX12_canCut_23 (by decide) (by omega) (by decide) (fun c_23 => ?_) (fun c_23 => ?_)
          · have x36 : x = 36 := by omega
            subst x36
            refine a_iconst (pc := 84) (v := nI 0) dX12_canCut_84 (by decide) ?_
            refine a_topi (bI false) (by decide) ?_
            exact a_zret (pc := 85) dX12_canCut_85 rfl (by first | rfl | exact bI_nar _ | decide) (zf hz) (k _ _ false ⟨fun q => (by cases q), fun q => absurd (y0.mpr (CUF_36 (hC q))) (by omega)⟩ hm1)
          · refine a_iload_4 (pc := 26) dX12_canCut_26 ?_
            refine a_iloadn_1 (pc := 28) dX12_canCut_28 ?_
            refine n_icmp_eq (tgt := 78) dX12_canCut_29 (by decide) (by omega) (by omega) (fun c_29 => ?_) (fun c_29 => ?_)
            · have hN := fun q => CUF_next (n := c9) (fun z => z.1.1 c_29) (hC q)
              refine a_iinc_4 (pc := 78) (v := nI (x + 1)) dX12_canCut_78 (nI_add _ _) (by decide) (by first | rfl | trivial) ?_
              refine a_goto (pc := 81) (tgt := 19) dX12_canCut_81 (by decide) ?_
              first | exact ih (x + 1) _ _ (by omega) (by omega) hN hm9 | exact ih (x + 1) _ _ (by omega) (by omega) hN hm1
            · refine a_aloadn_0 (pc := 32) dX12_canCut_32 ?_
              refine a_iload_4 (pc := 33) dX12_canCut_33 ?_
              refine cv_X12_260 (pc := 35) rfl dX12_canCut_35 hm1.2.2.1 (Nat.le_of_ble_eq_true rfl) ?_
              refine m_isOpen (by omega) hz hm1 (hvS _) okv (by omega) ?_
              refine a_topi (bI (opC v o.2.1 x)) rfl ?_
              refine b_if_eq (pc := 38) (tgt := 78) dX12_canCut_38 (by decide) (fun c_38 => ?_) (fun c_38 => ?_)
              · have hN := fun q => CUF_next (n := c9) (fun z => by have z2 := z.1.2; rw [c_38] at z2; cases z2) (hC q)
                refine a_iinc_4 (pc := 78) (v := nI (x + 1)) dX12_canCut_78 (nI_add _ _) (by decide) (by first | rfl | trivial) ?_
                refine a_goto (pc := 81) (tgt := 19) dX12_canCut_81 (by decide) ?_
                first | exact ih (x + 1) _ _ (by omega) (by omega) hN hm9 | exact ih (x + 1) _ _ (by omega) (by omega) hN hm1
              · refine a_aloadn_0 (pc := 41) dX12_canCut_41 ?_
                refine mg_43 hm1 rfl dX12_canCut_42 ?_
                refine a_iload_4 (pc := 45) dX12_canCut_45 ?_
                refine a_iconst (pc := 47) (v := nI 1) dX12_canCut_47 (by decide) ?_
                refine ms_closed (j := x) (x := true) hm1 dX12_canCut_48 (by omega) (fun h21 hm21 => ?_)
                refine a_aloadn_0 (pc := 49) dX12_canCut_49 ?_
                refine a_iloadn_1 (pc := 50) dX12_canCut_50 ?_
                refine a_iload_4 (pc := 51) dX12_canCut_51 ?_
                refine a_iconst (pc := 53) (v := nI 1) dX12_canCut_53 (by decide) ?_
                refine n_iadd dX12_canCut_54 ?_
                refine a_iloadn_3 (pc := 55) dX12_canCut_55 ?_
                refine a_iconst (pc := 56) (v := nI 1) dX12_canCut_56 (by decide) ?_
                refine n_isub dX12_canCut_57 (by omega) ?_
                refine a_topi (nI (c9)) rfl ?_
                refine cv_X12_269 (pc := 58) rfl dX12_canCut_58 hm21.2.2.1 (Nat.le_of_ble_eq_true rfl) ?_
                refine ihn (o := (S, va_up o.2.1 x true, o.2.2)) (f := x + 1) (by omega) hm21 hv (by omega) (by omega) (fun h8 S8 y8 hy8 hm8 => ?_)
                have hy8 : y8 = true ↔ CUF (ga v) r c9 (x + 1) (opC v (va_up o.2.1 x true)) := hy8
                rw [opC_up] at hy8
                have hm8 : MS G h0 h8 (b, p, t, (S8, va_up o.2.1 x true, o.2.2)) := hm8
                refine a_istore_5 (pc := 61) dX12_canCut_61 (by decide) (by first | rfl | trivial) ?_
                refine a_aloadn_0 (pc := 63) dX12_canCut_63 ?_
                refine mg_43 hm8 rfl dX12_canCut_64 ?_
                refine a_iload_4 (pc := 67) dX12_canCut_67 ?_
                refine a_iconst (pc := 69) (v := nI 0) dX12_canCut_69 (by decide) ?_
                refine ms_closed (j := x) (x := false) hm8 dX12_canCut_70 (by omega) (fun h22 hm22 => ?_)
                refine a_iload_5 (pc := 71) dX12_canCut_71 ?_
                have hm9 : MS G h0 h22 (b, p, t, (S8, o.2)) := by
                  have q : MS G h0 h22 (b, p, t, (S8, va_up (va_up o.2.1 x true) x false, o.2.2)) := hm22
                  rw [cl_back (opC_c c_38)] at q
                  exact q
                refine b_if_eq (pc := 73) (tgt := 78) dX12_canCut_73 (by decide) (fun c_73 => ?_) (fun c_73 => ?_)
                · have hN := fun q => CUF_next (n := c9) (fun z => by have z2 := hy8.mpr z.2; rw [c_73] at z2; cases z2) (hC q)
                  refine a_iinc_4 (pc := 78) (v := nI (x + 1)) dX12_canCut_78 (nI_add _ _) (by decide) (by first | rfl | trivial) ?_
                  refine a_goto (pc := 81) (tgt := 19) dX12_canCut_81 (by decide) ?_
                  refine a_ls (ls' := [some _, some _, some _, some _, some _, none, none]) ⟨rfl, rfl, rfl, rfl, rfl, trivial⟩ ?_
                  first | exact ih (x + 1) _ _ (by omega) (by omega) hN hm9 | exact ih (x + 1) _ _ (by omega) (by omega) hN hm22
                · refine a_iconst (pc := 76) (v := nI 1) dX12_canCut_76 (by decide) ?_
                  refine a_topi (bI true) (by decide) ?_
                  exact a_zret (pc := 77) dX12_canCut_77 rfl (by first | rfl | exact bI_nar _ | decide) (zf hz) (k _ _ true ⟨fun _ => CUF_s (f' := x + 1) ⟨by omega, by omega, c_29, c_38⟩ (by omega) (hy8.mp c_73), fun _ => rfl⟩ hm9)
      exact lp 38 f _ _ (by omega) (by omega) (fun q => q) hm7
    · refine a_iconst (pc := 8) (v := nI 1) dX12_canCut_8 (by decide) ?_
      refine a_topi (bI true) (by decide) ?_
      exact a_zret (pc := 9) dX12_canCut_9 rfl (by first | rfl | exact bI_nar _ | decide) (zf hz) (k _ _ true ⟨fun _ => CUF_now (y0.mp (by omega)), fun _ => rfl⟩ hm7)
def wayP (v : Cv) (r w : Int32) (y : Int32) : Prop := if inR 0 (nI 35) r = true then (if inR 0 (nI 1) w = true then (if iN w = 0 then (if cK v (iN r) = true then y = 0 else ∃ n, WL (opV v) (ga v) (iN r) n ∧ y = if n = 0 then -2 else nI n) else (if clit v (iN r) = true then y = 0 else if cK v (iN r) = true ∨ ga v (iN r) = true then y = -2 else ∃ n, n ≤ 4 ∧ y = nI n ∧ (∀ m, m < n → ¬ CUF (ga v) (iN r) m 0 (opV v)) ∧ (n < 4 → CUF (ga v) (iN r) n 0 (opV v)))) else y = -1) else y = -1
theorem wayP_uniq {v : Cv} {r w y z : Int32} (h1 : wayP v r w y) (h2 : wayP v r w z) : y = z := by
  unfold wayP at h1 h2
  split at h1
  · split at h1
    · split at h1
      · split at h1
        · rename_i a1 a2 a3 a4
          rw [if_pos a1, if_pos a2, if_pos a3, if_pos a4] at h2
          rw [h1, h2]
        · rename_i a1 a2 a3 a4
          rw [if_pos a1, if_pos a2, if_pos a3, if_neg a4] at h2
          obtain ⟨n, h3, rfl⟩ := h1
          obtain ⟨m, h4, rfl⟩ := h2
          rw [WL_uniq h3 h4]
      · split at h1
        · rename_i a1 a2 a3 a4
          rw [if_pos a1, if_pos a2, if_neg a3, if_pos a4] at h2
          rw [h1, h2]
        · split at h1
          · rename_i a1 a2 a3 a4 a5
            rw [if_pos a1, if_pos a2, if_neg a3, if_neg a4, if_pos a5] at h2
            rw [h1, h2]
          · rename_i a1 a2 a3 a4 a5
            rw [if_pos a1, if_pos a2, if_neg a3, if_neg a4, if_neg a5] at h2
            obtain ⟨n, b1, rfl, b2, b3⟩ := h1
            obtain ⟨m, c1, rfl, c2, c3⟩ := h2
            rcases Nat.lt_trichotomy n m with q | q | q
            · exact absurd (b3 (by omega)) (c2 n q)
            · rw [q]
            · exact absurd (c3 (by omega)) (b2 m q)
    · rename_i a1 a2
      rw [if_pos a1, if_neg a2] at h2
      rw [h1, h2]
  · rename_i a1
    rw [if_neg a1] at h2
    rw [h1, h2]
section WPs
variable {v : Cv} {r w : Nat} {y : Int32}
theorem wp_0 (hr : r < 36) (h : (cK v r = true ∧ y = 0) ∨ (cK v r = false ∧ ∃ n, WL (opV v) (ga v) r n ∧ y = if n = 0 then -2 else nI n)) : wayP v (nI r) (nI 0) y := by
  unfold wayP
  rw [iN_nI (by omega), iN_nI (by omega), if_pos (show inR 0 (nI 35) (nI r) = true by rw [inR_nI (by decide) (by omega)]; exact decide_eq_true (by omega)), if_pos (by decide), if_pos rfl]
  rcases h with ⟨a, b⟩ | ⟨a, b⟩
  · rw [if_pos a]; exact b
  · rw [if_neg (by rw [a]; simp)]; exact b
theorem wp_1 (hr : r < 36) (h : (clit v r = true ∧ y = 0) ∨ (clit v r = false ∧ (cK v r = true ∨ ga v r = true) ∧ y = -2) ∨ (clit v r = false ∧ cK v r = false ∧ ga v r = false ∧ ∃ n, n ≤ 4 ∧ y = nI n ∧ (∀ m, m < n → ¬ CUF (ga v) r m 0 (opV v)) ∧ (n < 4 → CUF (ga v) r n 0 (opV v)))) : wayP v (nI r) (nI 1) y := by
  unfold wayP
  rw [iN_nI (by omega), iN_nI (by omega), if_pos (show inR 0 (nI 35) (nI r) = true by rw [inR_nI (by decide) (by omega)]; exact decide_eq_true (by omega)), if_pos (by decide), if_neg (by decide)]
  rcases h with ⟨a, b⟩ | ⟨a, a2, b⟩ | ⟨a, a2, a3, b⟩
  · rw [if_pos a]; exact b
  · rw [if_neg (by rw [a]; simp), if_pos a2]; exact b
  · rw [if_neg (by rw [a]; simp), if_neg (by rw [a2, a3]; simp)]; exact b
end WPs
theorem wp_bad {v : Cv} {r w : Int32} (h : (inR 0 (nI 35) r && inR 0 (nI 1) w) = false) : wayP v r w (-1) := by
  unfold wayP
  cases h1 : inR 0 (nI 35) r with
  | false => rw [if_neg (by simp)]
  | true =>
    rw [h1, Bool.true_and] at h
    rw [if_pos rfl, h, if_neg (by simp)]
set_option maxRecDepth 100000 in
set_option maxHeartbeats 4000000 in
theorem m_wayIn {G : Cx} {d : Nat} {h h0 : List va_E} {b : MB} {p : MP} {t : MT} {o : MO} {Q : Option Value → List va_E → Prop} (hd : 20 ≤ d) (hz : gz G = false) (hm : MS G h0 h (b, p, t, o)) {v : Cv} {F : Lf} (hb : BV (b, p, t, o) v) (okv : okC v) (hL : LM b F) {r w : Int32} (hcl : o.2.1 = fun _ => false) (hk : ∀ y h1 p1 t1 o1, wayP v r w y → MS G h0 h1 (b, p1, t1, o1) → o1.2.1 = o.2.1 → Q (some (.int y)) h1) : AM G yX12_wayIn cX12_wayIn 4 (some .int) d 0 0 [.ref (gB G + 80), .int (r), .int (w)] h Q := by
  obtain ⟨d, rfl, he⟩ := dpos hd
  refine AM.of [some (.ref (gB G + 80)), some (.int (r)), some (.int (w)), none] pnX12 (Nat.le_of_ble_eq_true rfl) (by simp [lsub, lvI, Value.category]) ?_
  refine a_iloadn_1 (pc := 0) dX12_wayIn_0 ?_
  refine a_i2l (pc := 1) dX12_wayIn_1 ?_
  refine cs_X12_106 (pc := 2) rfl dX12_wayIn_2 (Nat.le_of_ble_eq_true rfl) ?_
  refine m_isRoom (by omega) hz ?_
  refine a_topi (bI (inR 0 (nI 35) r)) (congrArg bI (inL_R 0 35 (by decide) (by decide) r)) ?_
  refine b_if_eq (pc := 5) (tgt := 18) dX12_wayIn_5 (by decide) (fun c_5 => ?_) (fun c_5 => ?_)
  · refine a_iconst (pc := 18) (v := (-1)) dX12_wayIn_18 (by decide) ?_
    exact a_iret (pc := 19) dX12_wayIn_19 rfl (zf hz) (hk _ _ _ _ _ (wp_bad (by simp [c_5])) hm rfl)
  · obtain ⟨n_r, h_r, rfl⟩ := inR_of (by decide) c_5
    have i_r : iN (nI n_r) = n_r := iN_nI (by omega)
    refine a_iloadn_2 (pc := 8) dX12_wayIn_8 ?_
    refine a_i2l (pc := 9) dX12_wayIn_9 ?_
    refine a_lconst (pc := 10) (v := 0) dX12_wayIn_10 (by decide) ?_
    refine a_lconst (pc := 11) (v := 1) dX12_wayIn_11 (by decide) ?_
    refine cs_X12_96 (pc := 12) rfl dX12_wayIn_12 (Nat.le_of_ble_eq_true rfl) ?_
    refine m_within (by omega) hz ?_
    refine a_topi (bI (inR 0 (nI 1) w)) (congrArg bI (inL_R 0 1 (by decide) (by decide) w)) ?_
    refine b_if_ne (pc := 15) (tgt := 20) dX12_wayIn_15 (by decide) (fun c_15 => ?_) (fun c_15 => ?_)
    · obtain ⟨n_w, h_w, rfl⟩ := inR_of (by decide) c_15
      have i_w : iN (nI n_w) = n_w := iN_nI (by omega)
      refine a_aloadn_0 (pc := 20) dX12_wayIn_20 ?_
      refine cv_X12_220 (pc := 21) rfl dX12_wayIn_21 hm.2.2.1 (Nat.le_of_ble_eq_true rfl) ?_
      refine m_begins (by omega) hz hm hb (fun h1 t1 hm1 hv1 => ?_)
      refine a_iloadn_2 (pc := 24) dX12_wayIn_24 ?_
      refine n_if_ne (tgt := 59) dX12_wayIn_25 (by decide) (by omega) (fun c_25 => ?_) (fun c_25 => ?_)
      · have w1 : n_w = 1 := by omega
        subst w1
        refine a_aloadn_0 (pc := 59) dX12_wayIn_59 ?_
        refine a_iloadn_1 (pc := 60) dX12_wayIn_60 ?_
        refine cv_X12_196 (pc := 61) rfl dX12_wayIn_61 hm1.2.2.1 (Nat.le_of_ble_eq_true rfl) ?_
        refine m_isLit (by omega) hz hm1 hv1 okv (by omega) ?_
        refine b_if_eq (pc := 64) (tgt := 69) dX12_wayIn_64 (by decide) (fun c_64 => ?_) (fun c_64 => ?_)
        · refine a_aloadn_0 (pc := 69) dX12_wayIn_69 ?_
          refine mg_34 hm1 rfl dX12_wayIn_70 ?_
          refine a_iloadn_1 (pc := 73) dX12_wayIn_73 ?_
          refine ml_isDark (x := (cK v n_r).toNat) hm1 dX12_wayIn_74 (by omega) (hv1.1 n_r (by omega)).2.1 ?_
          refine a_topi (bI (cK v n_r)) (bI_nI _).symm ?_
          refine a_iconst (pc := 75) (v := nI 1) dX12_wayIn_75 (by decide) ?_
          refine b1_icmp_eq (tgt := 87) dX12_wayIn_76 (by decide) (fun c_76 => ?_) (fun c_76 => ?_)
          · refine a_bipush (pc := 87) (v := (-2)) dX12_wayIn_87 (by decide) ?_
            exact a_iret (pc := 89) dX12_wayIn_89 rfl (zf hz) (by first | exact hk _ _ _ _ _ (wp_1 (by omega) (Or.inr (Or.inl ⟨c_64, Or.inl c_76, rfl⟩))) hm1 rfl | exact hk _ _ _ _ _ (wp_1 (by omega) (Or.inr (Or.inl ⟨c_64, Or.inr c_84, rfl⟩))) hm1 rfl)
          · refine a_aloadn_0 (pc := 79) dX12_wayIn_79 ?_
            refine a_iloadn_1 (pc := 80) dX12_wayIn_80 ?_
            refine cv_X12_263 (pc := 81) rfl dX12_wayIn_81 hm1.2.2.1 (Nat.le_of_ble_eq_true rfl) ?_
            refine m_isAtDark (by omega) hz hm1 hv1 okv (by omega) ?_
            refine b_if_eq (pc := 84) (tgt := 90) dX12_wayIn_84 (by decide) (fun c_84 => ?_) (fun c_84 => ?_)
            · refine a_iconst (pc := 90) (v := nI 0) dX12_wayIn_90 (by decide) ?_
              refine a_istoren_3 (pc := 91) dX12_wayIn_91 (by decide) (by first | rfl | trivial) ?_
              have l0 := c_64
              have l1 := c_76
              have l2 := c_84
              have lp : ∀ (n : Nat) (x : Nat) (h2 : List va_E) (S : Nat → Nat), 5 - x < n → (x ≤ 4) → (∀ m, m < x → ¬ CUF (ga v) n_r m 0 (opV v)) → (MS G h0 h2 (b, p, t1, (S, o.2))) → AW G yX12_wayIn cX12_wayIn 4 (some .int) (rmx (d + 1) 0 0) (ZQ G 0 0 (h.length + 0) Q) 0 0 92 [some (.ref (gB G + 80)), some (.int (nI (n_r))), some (.int (nI (1))), some (.int (nI (x)))] [] h2 := by
                intro n
                induction n with
                | zero => intro x h2 S hn; exact absurd hn (Nat.not_lt_zero _)
                | succ n ih =>
                  intro x h2 S hn hx hN hm2
                  refine a_iloadn_3 (pc := 92) dX12_wayIn_92 ?_
                  refine a_iconst (pc := 93) (v := nI 4) dX12_wayIn_93 (by decide) ?_
                  refine n_icmp_ge (tgt := 113) dX12_wayIn_94 (by decide) (by omega) (by decide) (fun c_94 => ?_) (fun c_94 => ?_)
                  · refine a_iloadn_3 (pc := 113) dX12_wayIn_113 ?_
                    exact a_iret (pc := 114) dX12_wayIn_114 rfl (zf hz) (by first | exact hk _ _ _ _ _ (wp_1 (by omega) (Or.inr (Or.inr ⟨l0, l1, l2, x, by omega, rfl, hN, fun q => by omega⟩))) hm2 rfl | exact hk _ _ _ _ _ (wp_1 (by omega) (Or.inr (Or.inr ⟨l0, l1, l2, x, by omega, rfl, hN, fun q => hy8.mp c_104⟩))) hm2 rfl)
                  · refine a_aloadn_0 (pc := 97) dX12_wayIn_97 ?_
                    refine a_iloadn_1 (pc := 98) dX12_wayIn_98 ?_
                    refine a_iconst (pc := 99) (v := nI 0) dX12_wayIn_99 (by decide) ?_
                    refine a_iloadn_3 (pc := 100) dX12_wayIn_100 ?_
                    refine cv_X12_269 (pc := 101) rfl dX12_wayIn_101 hm2.2.2.1 (Nat.le_of_ble_eq_true rfl) ?_
                    refine m_canCut hz okv (by omega) x (f := 0) (by omega) hm2 hv1 (by omega) (by omega) (fun h8 S8 y8 hy8 hm8 => ?_)
                    have hy8 : y8 = true ↔ CUF (ga v) n_r x 0 (opC v o.2.1) := hy8
                    rw [hcl, opC_z] at hy8
                    refine b_if_ne (pc := 104) (tgt := 113) dX12_wayIn_104 (by decide) (fun c_104 => ?_) (fun c_104 => ?_)
                    · refine a_iloadn_3 (pc := 113) dX12_wayIn_113 ?_
                      exact a_iret (pc := 114) dX12_wayIn_114 rfl (zf hz) (by first | exact hk _ _ _ _ _ (wp_1 (by omega) (Or.inr (Or.inr ⟨l0, l1, l2, x, by omega, rfl, hN, fun q => by omega⟩))) hm8 rfl | exact hk _ _ _ _ _ (wp_1 (by omega) (Or.inr (Or.inr ⟨l0, l1, l2, x, by omega, rfl, hN, fun q => hy8.mp c_104⟩))) hm8 rfl)
                    · refine a_iinc_3 (pc := 107) (v := nI (x + 1)) dX12_wayIn_107 (nI_add _ _) (by decide) (by first | rfl | trivial) ?_
                      refine a_goto (pc := 110) (tgt := 92) dX12_wayIn_110 (by decide) ?_
                      exact ih (x + 1) _ _ (by omega) (by omega) (fun m hm q => by
                        by_cases e : m = x
                        · rw [e] at q; rw [hy8.mpr q] at c_104; cases c_104
                        · exact hN m (by omega) q) hm8
              exact lp 6 0 _ o.1 (by omega) (by omega) (fun m hm => absurd hm (Nat.not_lt_zero m)) hm1
            · refine a_bipush (pc := 87) (v := (-2)) dX12_wayIn_87 (by decide) ?_
              exact a_iret (pc := 89) dX12_wayIn_89 rfl (zf hz) (by first | exact hk _ _ _ _ _ (wp_1 (by omega) (Or.inr (Or.inl ⟨c_64, Or.inl c_76, rfl⟩))) hm1 rfl | exact hk _ _ _ _ _ (wp_1 (by omega) (Or.inr (Or.inl ⟨c_64, Or.inr c_84, rfl⟩))) hm1 rfl)
        · refine a_iconst (pc := 67) (v := nI 0) dX12_wayIn_67 (by decide) ?_
          exact a_iret (pc := 68) dX12_wayIn_68 rfl (zf hz) (hk _ _ _ _ _ (wp_1 (by omega) (Or.inl ⟨c_64, rfl⟩)) hm1 rfl)
      · have w0 : n_w = 0 := by omega
        subst w0
        refine a_aloadn_0 (pc := 28) dX12_wayIn_28 ?_
        refine a_iloadn_1 (pc := 29) dX12_wayIn_29 ?_
        refine cv_X12_266 (pc := 30) rfl dX12_wayIn_30 hm1.2.2.1 (Nat.le_of_ble_eq_true rfl) ?_
        refine m_stepsIn (by omega) hz hm1 hv1 okv (by omega) (fun h7 S7 y7 hw7 hm7 => ?_)
        have y36 := WL_le hw7
        rw [hcl, opC_z] at hw7
        refine a_istoren_3 (pc := 33) dX12_wayIn_33 (by decide) (by first | rfl | trivial) ?_
        refine a_aloadn_0 (pc := 34) dX12_wayIn_34 ?_
        refine mg_34 hm7 rfl dX12_wayIn_35 ?_
        refine a_iloadn_1 (pc := 38) dX12_wayIn_38 ?_
        refine ml_isDark (x := (cK v n_r).toNat) hm7 dX12_wayIn_39 (by omega) (hv1.1 n_r (by omega)).2.1 ?_
        refine a_topi (bI (cK v n_r)) (bI_nI _).symm ?_
        refine a_iconst (pc := 40) (v := nI 1) dX12_wayIn_40 (by decide) ?_
        refine b1_icmp_ne (tgt := 48) dX12_wayIn_41 (by decide) (fun c_41 => ?_) (fun c_41 => ?_)
        · refine a_iloadn_3 (pc := 48) dX12_wayIn_48 ?_
          refine n_if_ne (tgt := 57) dX12_wayIn_49 (by decide) (by omega) (fun c_49 => ?_) (fun c_49 => ?_)
          · refine a_iloadn_3 (pc := 57) dX12_wayIn_57 ?_
            exact a_iret (pc := 58) dX12_wayIn_58 rfl (zf hz) (by first | exact hk _ _ _ _ _ (wp_0 (by omega) (Or.inl ⟨c_41, rfl⟩)) hm7 rfl | exact hk _ _ _ _ _ (wp_0 (by omega) (Or.inr ⟨c_41, _, hw7, by first | rw [if_pos (by omega)] | rw [if_neg (by omega)]⟩)) hm7 rfl)
          · refine a_bipush (pc := 52) (v := (-2)) dX12_wayIn_52 (by decide) ?_
            refine a_goto (pc := 54) (tgt := 58) dX12_wayIn_54 (by decide) ?_
            exact a_iret (pc := 58) dX12_wayIn_58 rfl (zf hz) (by first | exact hk _ _ _ _ _ (wp_0 (by omega) (Or.inl ⟨c_41, rfl⟩)) hm7 rfl | exact hk _ _ _ _ _ (wp_0 (by omega) (Or.inr ⟨c_41, _, hw7, by first | rw [if_pos (by omega)] | rw [if_neg (by omega)]⟩)) hm7 rfl)
        · refine a_iconst (pc := 44) (v := nI 0) dX12_wayIn_44 (by decide) ?_
          refine a_goto (pc := 45) (tgt := 58) dX12_wayIn_45 (by decide) ?_
          exact a_iret (pc := 58) dX12_wayIn_58 rfl (zf hz) (by first | exact hk _ _ _ _ _ (wp_0 (by omega) (Or.inl ⟨c_41, rfl⟩)) hm7 rfl | exact hk _ _ _ _ _ (wp_0 (by omega) (Or.inr ⟨c_41, _, hw7, by first | rw [if_pos (by omega)] | rw [if_neg (by omega)]⟩)) hm7 rfl)
    · refine a_iconst (pc := 18) (v := (-1)) dX12_wayIn_18 (by decide) ?_
      exact a_iret (pc := 19) dX12_wayIn_19 rfl (zf hz) (hk _ _ _ _ _ (wp_bad (by simp [c_5, i_r, c_15])) hm rfl)
