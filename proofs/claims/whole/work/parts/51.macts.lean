/-! SAUCERS' ways: what an act gives, and which bodies ran; the reference's walk -/
abbrev Ac : Type := Int32 × List Nat
def bS (n : Nat) (k : Nat) (x : Int32) : Ac := match k with
  | 1 => (x + nI n + nI 3, [20, 1])
  | 4 => (x + nI n + nI 3, [20, 1])
  | 7 => (x + nI n + nI 3, [20, 1])
  | 6 => ((x + nI n) * nI 2, [70, 1])
  | _ => (x + nI n, [1])
def lS (n sk : Nat) (k : Nat) (x : Int32) : Ac := match k with
  | 3 => ((x ^^^ nI n) * nI 3, [40, 11])
  | 5 => ((x ^^^ nI n) * nI 3, [40, 11])
  | 4 => ((x ^^^ nI n) - (bS n sk (nI 2)).1, 50 :: 11 :: (bS n sk (nI 2)).2)
  | 7 => ((x ^^^ nI n) - (bS n sk (nI 2)).1, 50 :: 11 :: (bS n sk (nI 2)).2)
  | _ => (x ^^^ nI n, [11])
def h0S (n sk : Nat) (x : Int32) : Ac := ((bS n sk x).1 * nI 2, 10 :: (bS n sk x).2)
def h2S (n sk : Nat) (x : Int32) : Ac := (-(h0S n sk x).1, 30 :: (h0S n sk x).2)
def hS (n sk : Nat) (k : Nat) (x : Int32) : Ac := match k with
  | 3 => ((h2S n sk (x + nI 1)).1, 41 :: (h2S n sk (x + nI 1)).2)
  | 5 => ((h2S n sk (x + nI 1)).1, 41 :: (h2S n sk (x + nI 1)).2)
  | 2 => h2S n sk x
  | 7 => ((h0S n sk x).1 + (lS n sk sk (nI 2)).1, 80 :: ((h0S n sk x).2 ++ (lS n sk sk (nI 2)).2))
  | _ => h0S n sk x
def t0S (n sk : Nat) (x : Int32) : Ac := ((hS n sk sk x).1 - (lS n sk sk (nI 1)).1, 2 :: ((hS n sk sk x).2 ++ (lS n sk sk (nI 1)).2))
def tlS (n sk : Nat) (k : Nat) (x : Int32) : Ac := match k with
  | 5 => ((t0S n sk x).1 ^^^ nI 5, 60 :: (t0S n sk x).2)
  | 7 => ((t0S n sk x).1 - nI 1, 81 :: (t0S n sk x).2)
  | _ => t0S n sk x
abbrev Rn : Type := (Nat → Nat) × Nat
def rn (s : Rn) (w : Nat) : Rn := (if s.2 < 24 then va_up s.1 s.2 w else s.1, s.2 + 1)
def rns (s : Rn) (l : List Nat) : Rn := l.foldl rn s
theorem rns_len (l : List Nat) : ∀ s : Rn, (rns s l).2 = s.2 + l.length := by
  induction l with
  | nil => intro s; rfl
  | cons a l ih => intro s; show (rns (rn s a) l).2 = _; rw [ih]; show s.2 + 1 + l.length = s.2 + (l.length + 1); omega
theorem rns_app (l m : List Nat) (s : Rn) : rns s (l ++ m) = rns (rns s l) m := by unfold rns; rw [List.foldl_append]
theorem bS_len (n k : Nat) (x : Int32) : (bS n k x).2.length ≤ 2 := by unfold bS; split <;> simp
theorem lS_len (n sk k : Nat) (x : Int32) : (lS n sk k x).2.length ≤ 4 := by
  have := bS_len n sk (nI 2)
  unfold lS
  split <;> simp <;> omega
theorem h0_len (n sk : Nat) (x : Int32) : (h0S n sk x).2.length ≤ 3 := by
  have := bS_len n sk x
  unfold h0S
  simp; omega
theorem h2_len (n sk : Nat) (x : Int32) : (h2S n sk x).2.length ≤ 4 := by
  have := h0_len n sk x
  unfold h2S
  simp; omega
theorem hS_len (n sk k : Nat) (x : Int32) : (hS n sk k x).2.length ≤ 8 := by
  have h1 := h0_len n sk x
  have h2 := h2_len n sk x
  have h3 := h2_len n sk (x + nI 1)
  have h4 := lS_len n sk sk (nI 2)
  unfold hS
  split <;> simp <;> omega
theorem k8 {k : Nat} (h : k < 8) : k = 0 ∨ k = 1 ∨ k = 2 ∨ k = 3 ∨ k = 4 ∨ k = 5 ∨ k = 6 ∨ k = 7 := by omega
set_option maxRecDepth 100000 in
set_option maxHeartbeats 4000000 in
theorem m_runs {G : Cx} {d : Nat} {h h0 : List va_E} {b : MB} {p : MP} {t : MT} {o : MO} {s : Rn} {Q : Option Value → List va_E → Prop} (hd : 1 ≤ d) (hz : gz G = false) (hm : MS G h0 h (uRan (uTrace b s.1) s.2, p, t, o)) {w : Nat} (hr : s.2 < 1000) (k : ∀ h1, MS G h0 h1 (uRan (uTrace b (rn s w).1) (rn s w).2, p, t, o) → Q none h1) : AM G yX12_runs cX12_runs 2 none d 0 0 [.ref (gB G + 80), .int (nI (w))] h Q := by
  obtain ⟨d, rfl, he⟩ := dpos hd
  refine AM.of [some (.ref (gB G + 80)), some (.int (nI (w)))] pnX12 (Nat.le_of_ble_eq_true rfl) (by simp [lsub, lvI, Value.category]) ?_
  refine a_aloadn_0 (pc := 0) dX12_runs_0 ?_
  refine mg_306 (x := s.2) hm rfl dX12_runs_1 rfl ?_
  refine a_bipush (pc := 4) (v := nI 24) dX12_runs_4 (by decide) ?_
  refine n_icmp_ge (tgt := 19) dX12_runs_6 (by decide) (by omega) (by decide) (fun c_6 => ?_) (fun c_6 => ?_)
  · have e : rn s w = (s.1, s.2 + 1) := by unfold rn; rw [if_neg (by omega)]
    refine a_aloadn_0 (pc := 19) dX12_runs_19 ?_
    refine a_dup (pc := 20) dX12_runs_20 rfl ?_
    refine mg_306 (x := s.2) hm rfl dX12_runs_21 rfl ?_
    refine a_iconst (pc := 24) (v := nI 1) dX12_runs_24 (by decide) ?_
    refine n_iadd dX12_runs_25 ?_
    refine mp_306 (x := s.2 + 1) hm rfl dX12_runs_26 (fun h1 hm1 => ?_)
    exact a_vret (pc := 29) dX12_runs_29 rfl (zf hz) (k _ (by rw [e]; exact hm1))
  · have e : rn s w = (va_up s.1 s.2 w, s.2 + 1) := by unfold rn; rw [if_pos c_6]
    refine a_aloadn_0 (pc := 9) dX12_runs_9 ?_
    refine mg_68 hm rfl dX12_runs_10 ?_
    refine a_aloadn_0 (pc := 13) dX12_runs_13 ?_
    refine mg_306 (x := s.2) hm rfl dX12_runs_14 rfl ?_
    refine a_iloadn_1 (pc := 17) dX12_runs_17 ?_
    refine ms_trace (j := s.2) (x := w) hm dX12_runs_18 (by omega) (fun h1 hm1 => ?_)
    refine a_aloadn_0 (pc := 19) dX12_runs_19 ?_
    refine a_dup (pc := 20) dX12_runs_20 rfl ?_
    refine mg_306 (x := s.2) hm1 rfl dX12_runs_21 rfl ?_
    refine a_iconst (pc := 24) (v := nI 1) dX12_runs_24 (by decide) ?_
    refine n_iadd dX12_runs_25 ?_
    refine mp_306 (x := s.2 + 1) hm1 rfl dX12_runs_26 (fun h2 hm2 => ?_)
    exact a_vret (pc := 29) dX12_runs_29 rfl (zf hz) (k _ (by rw [e]; exact hm2))
theorem t0_len (n sk : Nat) (x : Int32) : (t0S n sk x).2.length ≤ 13 := by
  have h1 := hS_len n sk sk x
  have h2 := lS_len n sk sk (nI 1)
  unfold t0S
  simp; omega
theorem tlS_len (n sk k : Nat) (x : Int32) : (tlS n sk k x).2.length ≤ 14 := by
  have h1 := t0_len n sk x
  unfold tlS
  split <;> simp <;> omega
set_option maxRecDepth 100000 in
set_option maxHeartbeats 4000000 in
theorem m_burnsAs_0 {G : Cx} {d : Nat} {h h0 : List va_E} {b : MB} {p : MP} {t : MT} {o : MO} {s : Rn} {Q : Option Value → List va_E → Prop} (hd : 2 ≤ d) (hz : gz G = false) (hm : MS G h0 h (uRan (uTrace b s.1) s.2, p, t, o)) {n sk : Nat} (ho : o.2.2.2.2.2.2.1 = sk ∧ o.2.2.2.2.2.2.2.1 = n) {x : Int32} (hr : s.2 < 999) (k9 : ∀ h1, MS G h0 h1 (uRan (uTrace b (rns s (bS n 0 x).2).1) (rns s (bS n 0 x).2).2, p, t, o) → Q (some (.int (bS n 0 x).1)) h1) : AM G yX12_burnsAs cX12_burnsAs 3 (some .int) d 0 0 [.ref (gB G + 80), .int (nI 0), .int x] h Q := by
  obtain ⟨d, rfl, he⟩ := dpos hd
  refine AM.of [some (.ref (gB G + 80)), some (.int (nI 0)), some (.int x)] pnX12 (Nat.le_of_ble_eq_true rfl) (by simp [lsub, lvI, Value.category]) ?_
  refine a_iloadn_1 (pc := 0) dX12_burnsAs_0 ?_
  refine a_iconst (pc := 1) (v := nI 1) dX12_burnsAs_1 (by decide) ?_
  refine n_icmp_eq (tgt := 16) dX12_burnsAs_2 (by decide) (by decide) (by decide) (fun c_2 => by omega) (fun c_2 => ?_)
  refine a_iloadn_1 (pc := 5) dX12_burnsAs_5 ?_
  refine a_iconst (pc := 6) (v := nI 4) dX12_burnsAs_6 (by decide) ?_
  refine n_icmp_eq (tgt := 16) dX12_burnsAs_7 (by decide) (by decide) (by decide) (fun c_7 => by omega) (fun c_7 => ?_)
  refine a_iloadn_1 (pc := 10) dX12_burnsAs_10 ?_
  refine a_bipush (pc := 11) (v := nI 7) dX12_burnsAs_11 (by decide) ?_
  refine n_icmp_ne (tgt := 31) dX12_burnsAs_13 (by decide) (by decide) (by decide) (fun c_13 => ?_) (fun c_13 => by omega)
  refine a_iloadn_1 (pc := 31) dX12_burnsAs_31 ?_
  refine a_bipush (pc := 32) (v := nI 6) dX12_burnsAs_32 (by decide) ?_
  refine n_icmp_ne (tgt := 52) dX12_burnsAs_34 (by decide) (by decide) (by decide) (fun c_34 => ?_) (fun c_34 => by omega)
  refine a_aloadn_0 (pc := 52) dX12_burnsAs_52 ?_
  refine a_iconst (pc := 53) (v := nI 1) dX12_burnsAs_53 (by decide) ?_
  refine cv_X12_309 (pc := 54) rfl dX12_burnsAs_54 hm.2.2.1 (Nat.le_of_ble_eq_true rfl) ?_
  refine m_runs (by omega) hz hm (by omega) (fun h1 hm1 => ?_)
  have hr1 : (rn s 1).2 = s.2 + 1 := rfl
  refine a_iloadn_2 (pc := 57) dX12_burnsAs_57 ?_
  refine a_aloadn_0 (pc := 58) dX12_burnsAs_58 ?_
  refine mg_315 (x := n) hm1 rfl dX12_burnsAs_59 ho.2 ?_
  refine a_iadd (pc := 62) dX12_burnsAs_62 ?_
  exact a_iret (pc := 63) dX12_burnsAs_63 rfl (zf hz) (k9 _ (by rw [show rns s (bS n 0 x).2 = (rn s 1) from (by first | rfl | exact rns_app _ _ _)]; exact hm1))
set_option maxRecDepth 100000 in
set_option maxHeartbeats 4000000 in
theorem m_burnsAs_2 {G : Cx} {d : Nat} {h h0 : List va_E} {b : MB} {p : MP} {t : MT} {o : MO} {s : Rn} {Q : Option Value → List va_E → Prop} (hd : 2 ≤ d) (hz : gz G = false) (hm : MS G h0 h (uRan (uTrace b s.1) s.2, p, t, o)) {n sk : Nat} (ho : o.2.2.2.2.2.2.1 = sk ∧ o.2.2.2.2.2.2.2.1 = n) {x : Int32} (hr : s.2 < 999) (k9 : ∀ h1, MS G h0 h1 (uRan (uTrace b (rns s (bS n 2 x).2).1) (rns s (bS n 2 x).2).2, p, t, o) → Q (some (.int (bS n 2 x).1)) h1) : AM G yX12_burnsAs cX12_burnsAs 3 (some .int) d 0 0 [.ref (gB G + 80), .int (nI 2), .int x] h Q := by
  obtain ⟨d, rfl, he⟩ := dpos hd
  refine AM.of [some (.ref (gB G + 80)), some (.int (nI 2)), some (.int x)] pnX12 (Nat.le_of_ble_eq_true rfl) (by simp [lsub, lvI, Value.category]) ?_
  refine a_iloadn_1 (pc := 0) dX12_burnsAs_0 ?_
  refine a_iconst (pc := 1) (v := nI 1) dX12_burnsAs_1 (by decide) ?_
  refine n_icmp_eq (tgt := 16) dX12_burnsAs_2 (by decide) (by decide) (by decide) (fun c_2 => by omega) (fun c_2 => ?_)
  refine a_iloadn_1 (pc := 5) dX12_burnsAs_5 ?_
  refine a_iconst (pc := 6) (v := nI 4) dX12_burnsAs_6 (by decide) ?_
  refine n_icmp_eq (tgt := 16) dX12_burnsAs_7 (by decide) (by decide) (by decide) (fun c_7 => by omega) (fun c_7 => ?_)
  refine a_iloadn_1 (pc := 10) dX12_burnsAs_10 ?_
  refine a_bipush (pc := 11) (v := nI 7) dX12_burnsAs_11 (by decide) ?_
  refine n_icmp_ne (tgt := 31) dX12_burnsAs_13 (by decide) (by decide) (by decide) (fun c_13 => ?_) (fun c_13 => by omega)
  refine a_iloadn_1 (pc := 31) dX12_burnsAs_31 ?_
  refine a_bipush (pc := 32) (v := nI 6) dX12_burnsAs_32 (by decide) ?_
  refine n_icmp_ne (tgt := 52) dX12_burnsAs_34 (by decide) (by decide) (by decide) (fun c_34 => ?_) (fun c_34 => by omega)
  refine a_aloadn_0 (pc := 52) dX12_burnsAs_52 ?_
  refine a_iconst (pc := 53) (v := nI 1) dX12_burnsAs_53 (by decide) ?_
  refine cv_X12_309 (pc := 54) rfl dX12_burnsAs_54 hm.2.2.1 (Nat.le_of_ble_eq_true rfl) ?_
  refine m_runs (by omega) hz hm (by omega) (fun h1 hm1 => ?_)
  have hr1 : (rn s 1).2 = s.2 + 1 := rfl
  refine a_iloadn_2 (pc := 57) dX12_burnsAs_57 ?_
  refine a_aloadn_0 (pc := 58) dX12_burnsAs_58 ?_
  refine mg_315 (x := n) hm1 rfl dX12_burnsAs_59 ho.2 ?_
  refine a_iadd (pc := 62) dX12_burnsAs_62 ?_
  exact a_iret (pc := 63) dX12_burnsAs_63 rfl (zf hz) (k9 _ (by rw [show rns s (bS n 2 x).2 = (rn s 1) from (by first | rfl | exact rns_app _ _ _)]; exact hm1))
set_option maxRecDepth 100000 in
set_option maxHeartbeats 4000000 in
theorem m_burnsAs_3 {G : Cx} {d : Nat} {h h0 : List va_E} {b : MB} {p : MP} {t : MT} {o : MO} {s : Rn} {Q : Option Value → List va_E → Prop} (hd : 2 ≤ d) (hz : gz G = false) (hm : MS G h0 h (uRan (uTrace b s.1) s.2, p, t, o)) {n sk : Nat} (ho : o.2.2.2.2.2.2.1 = sk ∧ o.2.2.2.2.2.2.2.1 = n) {x : Int32} (hr : s.2 < 999) (k9 : ∀ h1, MS G h0 h1 (uRan (uTrace b (rns s (bS n 3 x).2).1) (rns s (bS n 3 x).2).2, p, t, o) → Q (some (.int (bS n 3 x).1)) h1) : AM G yX12_burnsAs cX12_burnsAs 3 (some .int) d 0 0 [.ref (gB G + 80), .int (nI 3), .int x] h Q := by
  obtain ⟨d, rfl, he⟩ := dpos hd
  refine AM.of [some (.ref (gB G + 80)), some (.int (nI 3)), some (.int x)] pnX12 (Nat.le_of_ble_eq_true rfl) (by simp [lsub, lvI, Value.category]) ?_
  refine a_iloadn_1 (pc := 0) dX12_burnsAs_0 ?_
  refine a_iconst (pc := 1) (v := nI 1) dX12_burnsAs_1 (by decide) ?_
  refine n_icmp_eq (tgt := 16) dX12_burnsAs_2 (by decide) (by decide) (by decide) (fun c_2 => by omega) (fun c_2 => ?_)
  refine a_iloadn_1 (pc := 5) dX12_burnsAs_5 ?_
  refine a_iconst (pc := 6) (v := nI 4) dX12_burnsAs_6 (by decide) ?_
  refine n_icmp_eq (tgt := 16) dX12_burnsAs_7 (by decide) (by decide) (by decide) (fun c_7 => by omega) (fun c_7 => ?_)
  refine a_iloadn_1 (pc := 10) dX12_burnsAs_10 ?_
  refine a_bipush (pc := 11) (v := nI 7) dX12_burnsAs_11 (by decide) ?_
  refine n_icmp_ne (tgt := 31) dX12_burnsAs_13 (by decide) (by decide) (by decide) (fun c_13 => ?_) (fun c_13 => by omega)
  refine a_iloadn_1 (pc := 31) dX12_burnsAs_31 ?_
  refine a_bipush (pc := 32) (v := nI 6) dX12_burnsAs_32 (by decide) ?_
  refine n_icmp_ne (tgt := 52) dX12_burnsAs_34 (by decide) (by decide) (by decide) (fun c_34 => ?_) (fun c_34 => by omega)
  refine a_aloadn_0 (pc := 52) dX12_burnsAs_52 ?_
  refine a_iconst (pc := 53) (v := nI 1) dX12_burnsAs_53 (by decide) ?_
  refine cv_X12_309 (pc := 54) rfl dX12_burnsAs_54 hm.2.2.1 (Nat.le_of_ble_eq_true rfl) ?_
  refine m_runs (by omega) hz hm (by omega) (fun h1 hm1 => ?_)
  have hr1 : (rn s 1).2 = s.2 + 1 := rfl
  refine a_iloadn_2 (pc := 57) dX12_burnsAs_57 ?_
  refine a_aloadn_0 (pc := 58) dX12_burnsAs_58 ?_
  refine mg_315 (x := n) hm1 rfl dX12_burnsAs_59 ho.2 ?_
  refine a_iadd (pc := 62) dX12_burnsAs_62 ?_
  exact a_iret (pc := 63) dX12_burnsAs_63 rfl (zf hz) (k9 _ (by rw [show rns s (bS n 3 x).2 = (rn s 1) from (by first | rfl | exact rns_app _ _ _)]; exact hm1))
set_option maxRecDepth 100000 in
set_option maxHeartbeats 4000000 in
theorem m_burnsAs_5 {G : Cx} {d : Nat} {h h0 : List va_E} {b : MB} {p : MP} {t : MT} {o : MO} {s : Rn} {Q : Option Value → List va_E → Prop} (hd : 2 ≤ d) (hz : gz G = false) (hm : MS G h0 h (uRan (uTrace b s.1) s.2, p, t, o)) {n sk : Nat} (ho : o.2.2.2.2.2.2.1 = sk ∧ o.2.2.2.2.2.2.2.1 = n) {x : Int32} (hr : s.2 < 999) (k9 : ∀ h1, MS G h0 h1 (uRan (uTrace b (rns s (bS n 5 x).2).1) (rns s (bS n 5 x).2).2, p, t, o) → Q (some (.int (bS n 5 x).1)) h1) : AM G yX12_burnsAs cX12_burnsAs 3 (some .int) d 0 0 [.ref (gB G + 80), .int (nI 5), .int x] h Q := by
  obtain ⟨d, rfl, he⟩ := dpos hd
  refine AM.of [some (.ref (gB G + 80)), some (.int (nI 5)), some (.int x)] pnX12 (Nat.le_of_ble_eq_true rfl) (by simp [lsub, lvI, Value.category]) ?_
  refine a_iloadn_1 (pc := 0) dX12_burnsAs_0 ?_
  refine a_iconst (pc := 1) (v := nI 1) dX12_burnsAs_1 (by decide) ?_
  refine n_icmp_eq (tgt := 16) dX12_burnsAs_2 (by decide) (by decide) (by decide) (fun c_2 => by omega) (fun c_2 => ?_)
  refine a_iloadn_1 (pc := 5) dX12_burnsAs_5 ?_
  refine a_iconst (pc := 6) (v := nI 4) dX12_burnsAs_6 (by decide) ?_
  refine n_icmp_eq (tgt := 16) dX12_burnsAs_7 (by decide) (by decide) (by decide) (fun c_7 => by omega) (fun c_7 => ?_)
  refine a_iloadn_1 (pc := 10) dX12_burnsAs_10 ?_
  refine a_bipush (pc := 11) (v := nI 7) dX12_burnsAs_11 (by decide) ?_
  refine n_icmp_ne (tgt := 31) dX12_burnsAs_13 (by decide) (by decide) (by decide) (fun c_13 => ?_) (fun c_13 => by omega)
  refine a_iloadn_1 (pc := 31) dX12_burnsAs_31 ?_
  refine a_bipush (pc := 32) (v := nI 6) dX12_burnsAs_32 (by decide) ?_
  refine n_icmp_ne (tgt := 52) dX12_burnsAs_34 (by decide) (by decide) (by decide) (fun c_34 => ?_) (fun c_34 => by omega)
  refine a_aloadn_0 (pc := 52) dX12_burnsAs_52 ?_
  refine a_iconst (pc := 53) (v := nI 1) dX12_burnsAs_53 (by decide) ?_
  refine cv_X12_309 (pc := 54) rfl dX12_burnsAs_54 hm.2.2.1 (Nat.le_of_ble_eq_true rfl) ?_
  refine m_runs (by omega) hz hm (by omega) (fun h1 hm1 => ?_)
  have hr1 : (rn s 1).2 = s.2 + 1 := rfl
  refine a_iloadn_2 (pc := 57) dX12_burnsAs_57 ?_
  refine a_aloadn_0 (pc := 58) dX12_burnsAs_58 ?_
  refine mg_315 (x := n) hm1 rfl dX12_burnsAs_59 ho.2 ?_
  refine a_iadd (pc := 62) dX12_burnsAs_62 ?_
  exact a_iret (pc := 63) dX12_burnsAs_63 rfl (zf hz) (k9 _ (by rw [show rns s (bS n 5 x).2 = (rn s 1) from (by first | rfl | exact rns_app _ _ _)]; exact hm1))
set_option maxRecDepth 100000 in
set_option maxHeartbeats 4000000 in
theorem m_burnsAs_1 {G : Cx} {d : Nat} {h h0 : List va_E} {b : MB} {p : MP} {t : MT} {o : MO} {s : Rn} {Q : Option Value → List va_E → Prop} (hd : 3 ≤ d) (hz : gz G = false) (hm : MS G h0 h (uRan (uTrace b s.1) s.2, p, t, o)) {n sk : Nat} (ho : o.2.2.2.2.2.2.1 = sk ∧ o.2.2.2.2.2.2.2.1 = n) {x : Int32} (hr : s.2 < 998) (k9 : ∀ h1, MS G h0 h1 (uRan (uTrace b (rns s (bS n 1 x).2).1) (rns s (bS n 1 x).2).2, p, t, o) → Q (some (.int (bS n 1 x).1)) h1) : AM G yX12_burnsAs cX12_burnsAs 3 (some .int) d 0 0 [.ref (gB G + 80), .int (nI 1), .int x] h Q := by
  obtain ⟨d, rfl, he⟩ := dpos hd
  refine AM.of [some (.ref (gB G + 80)), some (.int (nI 1)), some (.int x)] pnX12 (Nat.le_of_ble_eq_true rfl) (by simp [lsub, lvI, Value.category]) ?_
  refine a_iloadn_1 (pc := 0) dX12_burnsAs_0 ?_
  refine a_iconst (pc := 1) (v := nI 1) dX12_burnsAs_1 (by decide) ?_
  refine n_icmp_eq (tgt := 16) dX12_burnsAs_2 (by decide) (by decide) (by decide) (fun c_2 => ?_) (fun c_2 => by omega)
  refine a_aloadn_0 (pc := 16) dX12_burnsAs_16 ?_
  refine a_bipush (pc := 17) (v := nI 20) dX12_burnsAs_17 (by decide) ?_
  refine cv_X12_309 (pc := 19) rfl dX12_burnsAs_19 hm.2.2.1 (Nat.le_of_ble_eq_true rfl) ?_
  refine m_runs (by omega) hz hm (by omega) (fun h1 hm1 => ?_)
  have hr1 : (rn s 20).2 = s.2 + 1 := rfl
  refine a_aloadn_0 (pc := 22) dX12_burnsAs_22 ?_
  refine a_iconst (pc := 23) (v := nI 0) dX12_burnsAs_23 (by decide) ?_
  refine a_iloadn_2 (pc := 24) dX12_burnsAs_24 ?_
  refine cv_X12_312 (pc := 25) rfl dX12_burnsAs_25 hm1.2.2.1 (Nat.le_of_ble_eq_true rfl) ?_
  refine m_burnsAs_0 (by omega) hz hm1 ho (by omega) (fun h2 hm2 => ?_)
  have hl2 := bS_len n 0 ((x))
  have hr2 := rns_len (bS n 0 ((x))).2 (rn s 20)
  refine a_iconst (pc := 28) (v := nI 3) dX12_burnsAs_28 (by decide) ?_
  refine a_iadd (pc := 29) dX12_burnsAs_29 ?_
  exact a_iret (pc := 30) dX12_burnsAs_30 rfl (zf hz) (k9 _ (by rw [show rns s (bS n 1 x).2 = (rns (rn s 20) (bS n 0 ((x))).2) from (by first | rfl | exact rns_app _ _ _)]; exact hm2))
set_option maxRecDepth 100000 in
set_option maxHeartbeats 4000000 in
theorem m_burnsAs_4 {G : Cx} {d : Nat} {h h0 : List va_E} {b : MB} {p : MP} {t : MT} {o : MO} {s : Rn} {Q : Option Value → List va_E → Prop} (hd : 3 ≤ d) (hz : gz G = false) (hm : MS G h0 h (uRan (uTrace b s.1) s.2, p, t, o)) {n sk : Nat} (ho : o.2.2.2.2.2.2.1 = sk ∧ o.2.2.2.2.2.2.2.1 = n) {x : Int32} (hr : s.2 < 998) (k9 : ∀ h1, MS G h0 h1 (uRan (uTrace b (rns s (bS n 4 x).2).1) (rns s (bS n 4 x).2).2, p, t, o) → Q (some (.int (bS n 4 x).1)) h1) : AM G yX12_burnsAs cX12_burnsAs 3 (some .int) d 0 0 [.ref (gB G + 80), .int (nI 4), .int x] h Q := by
  obtain ⟨d, rfl, he⟩ := dpos hd
  refine AM.of [some (.ref (gB G + 80)), some (.int (nI 4)), some (.int x)] pnX12 (Nat.le_of_ble_eq_true rfl) (by simp [lsub, lvI, Value.category]) ?_
  refine a_iloadn_1 (pc := 0) dX12_burnsAs_0 ?_
  refine a_iconst (pc := 1) (v := nI 1) dX12_burnsAs_1 (by decide) ?_
  refine n_icmp_eq (tgt := 16) dX12_burnsAs_2 (by decide) (by decide) (by decide) (fun c_2 => by omega) (fun c_2 => ?_)
  refine a_iloadn_1 (pc := 5) dX12_burnsAs_5 ?_
  refine a_iconst (pc := 6) (v := nI 4) dX12_burnsAs_6 (by decide) ?_
  refine n_icmp_eq (tgt := 16) dX12_burnsAs_7 (by decide) (by decide) (by decide) (fun c_7 => ?_) (fun c_7 => by omega)
  refine a_aloadn_0 (pc := 16) dX12_burnsAs_16 ?_
  refine a_bipush (pc := 17) (v := nI 20) dX12_burnsAs_17 (by decide) ?_
  refine cv_X12_309 (pc := 19) rfl dX12_burnsAs_19 hm.2.2.1 (Nat.le_of_ble_eq_true rfl) ?_
  refine m_runs (by omega) hz hm (by omega) (fun h1 hm1 => ?_)
  have hr1 : (rn s 20).2 = s.2 + 1 := rfl
  refine a_aloadn_0 (pc := 22) dX12_burnsAs_22 ?_
  refine a_iconst (pc := 23) (v := nI 0) dX12_burnsAs_23 (by decide) ?_
  refine a_iloadn_2 (pc := 24) dX12_burnsAs_24 ?_
  refine cv_X12_312 (pc := 25) rfl dX12_burnsAs_25 hm1.2.2.1 (Nat.le_of_ble_eq_true rfl) ?_
  refine m_burnsAs_0 (by omega) hz hm1 ho (by omega) (fun h2 hm2 => ?_)
  have hl2 := bS_len n 0 ((x))
  have hr2 := rns_len (bS n 0 ((x))).2 (rn s 20)
  refine a_iconst (pc := 28) (v := nI 3) dX12_burnsAs_28 (by decide) ?_
  refine a_iadd (pc := 29) dX12_burnsAs_29 ?_
  exact a_iret (pc := 30) dX12_burnsAs_30 rfl (zf hz) (k9 _ (by rw [show rns s (bS n 4 x).2 = (rns (rn s 20) (bS n 0 ((x))).2) from (by first | rfl | exact rns_app _ _ _)]; exact hm2))
set_option maxRecDepth 100000 in
set_option maxHeartbeats 4000000 in
theorem m_burnsAs_6 {G : Cx} {d : Nat} {h h0 : List va_E} {b : MB} {p : MP} {t : MT} {o : MO} {s : Rn} {Q : Option Value → List va_E → Prop} (hd : 3 ≤ d) (hz : gz G = false) (hm : MS G h0 h (uRan (uTrace b s.1) s.2, p, t, o)) {n sk : Nat} (ho : o.2.2.2.2.2.2.1 = sk ∧ o.2.2.2.2.2.2.2.1 = n) {x : Int32} (hr : s.2 < 998) (k9 : ∀ h1, MS G h0 h1 (uRan (uTrace b (rns s (bS n 6 x).2).1) (rns s (bS n 6 x).2).2, p, t, o) → Q (some (.int (bS n 6 x).1)) h1) : AM G yX12_burnsAs cX12_burnsAs 3 (some .int) d 0 0 [.ref (gB G + 80), .int (nI 6), .int x] h Q := by
  obtain ⟨d, rfl, he⟩ := dpos hd
  refine AM.of [some (.ref (gB G + 80)), some (.int (nI 6)), some (.int x)] pnX12 (Nat.le_of_ble_eq_true rfl) (by simp [lsub, lvI, Value.category]) ?_
  refine a_iloadn_1 (pc := 0) dX12_burnsAs_0 ?_
  refine a_iconst (pc := 1) (v := nI 1) dX12_burnsAs_1 (by decide) ?_
  refine n_icmp_eq (tgt := 16) dX12_burnsAs_2 (by decide) (by decide) (by decide) (fun c_2 => by omega) (fun c_2 => ?_)
  refine a_iloadn_1 (pc := 5) dX12_burnsAs_5 ?_
  refine a_iconst (pc := 6) (v := nI 4) dX12_burnsAs_6 (by decide) ?_
  refine n_icmp_eq (tgt := 16) dX12_burnsAs_7 (by decide) (by decide) (by decide) (fun c_7 => by omega) (fun c_7 => ?_)
  refine a_iloadn_1 (pc := 10) dX12_burnsAs_10 ?_
  refine a_bipush (pc := 11) (v := nI 7) dX12_burnsAs_11 (by decide) ?_
  refine n_icmp_ne (tgt := 31) dX12_burnsAs_13 (by decide) (by decide) (by decide) (fun c_13 => ?_) (fun c_13 => by omega)
  refine a_iloadn_1 (pc := 31) dX12_burnsAs_31 ?_
  refine a_bipush (pc := 32) (v := nI 6) dX12_burnsAs_32 (by decide) ?_
  refine n_icmp_ne (tgt := 52) dX12_burnsAs_34 (by decide) (by decide) (by decide) (fun c_34 => by omega) (fun c_34 => ?_)
  refine a_aloadn_0 (pc := 37) dX12_burnsAs_37 ?_
  refine a_bipush (pc := 38) (v := nI 70) dX12_burnsAs_38 (by decide) ?_
  refine cv_X12_309 (pc := 40) rfl dX12_burnsAs_40 hm.2.2.1 (Nat.le_of_ble_eq_true rfl) ?_
  refine m_runs (by omega) hz hm (by omega) (fun h1 hm1 => ?_)
  have hr1 : (rn s 70).2 = s.2 + 1 := rfl
  refine a_aloadn_0 (pc := 43) dX12_burnsAs_43 ?_
  refine a_iconst (pc := 44) (v := nI 0) dX12_burnsAs_44 (by decide) ?_
  refine a_iloadn_2 (pc := 45) dX12_burnsAs_45 ?_
  refine cv_X12_312 (pc := 46) rfl dX12_burnsAs_46 hm1.2.2.1 (Nat.le_of_ble_eq_true rfl) ?_
  refine m_burnsAs_0 (by omega) hz hm1 ho (by omega) (fun h2 hm2 => ?_)
  have hl2 := bS_len n 0 ((x))
  have hr2 := rns_len (bS n 0 ((x))).2 (rn s 70)
  refine a_iconst (pc := 49) (v := nI 2) dX12_burnsAs_49 (by decide) ?_
  refine a_imul (pc := 50) dX12_burnsAs_50 ?_
  exact a_iret (pc := 51) dX12_burnsAs_51 rfl (zf hz) (k9 _ (by rw [show rns s (bS n 6 x).2 = (rns (rn s 70) (bS n 0 ((x))).2) from (by first | rfl | exact rns_app _ _ _)]; exact hm2))
set_option maxRecDepth 100000 in
set_option maxHeartbeats 4000000 in
theorem m_burnsAs_7 {G : Cx} {d : Nat} {h h0 : List va_E} {b : MB} {p : MP} {t : MT} {o : MO} {s : Rn} {Q : Option Value → List va_E → Prop} (hd : 3 ≤ d) (hz : gz G = false) (hm : MS G h0 h (uRan (uTrace b s.1) s.2, p, t, o)) {n sk : Nat} (ho : o.2.2.2.2.2.2.1 = sk ∧ o.2.2.2.2.2.2.2.1 = n) {x : Int32} (hr : s.2 < 998) (k9 : ∀ h1, MS G h0 h1 (uRan (uTrace b (rns s (bS n 7 x).2).1) (rns s (bS n 7 x).2).2, p, t, o) → Q (some (.int (bS n 7 x).1)) h1) : AM G yX12_burnsAs cX12_burnsAs 3 (some .int) d 0 0 [.ref (gB G + 80), .int (nI 7), .int x] h Q := by
  obtain ⟨d, rfl, he⟩ := dpos hd
  refine AM.of [some (.ref (gB G + 80)), some (.int (nI 7)), some (.int x)] pnX12 (Nat.le_of_ble_eq_true rfl) (by simp [lsub, lvI, Value.category]) ?_
  refine a_iloadn_1 (pc := 0) dX12_burnsAs_0 ?_
  refine a_iconst (pc := 1) (v := nI 1) dX12_burnsAs_1 (by decide) ?_
  refine n_icmp_eq (tgt := 16) dX12_burnsAs_2 (by decide) (by decide) (by decide) (fun c_2 => by omega) (fun c_2 => ?_)
  refine a_iloadn_1 (pc := 5) dX12_burnsAs_5 ?_
  refine a_iconst (pc := 6) (v := nI 4) dX12_burnsAs_6 (by decide) ?_
  refine n_icmp_eq (tgt := 16) dX12_burnsAs_7 (by decide) (by decide) (by decide) (fun c_7 => by omega) (fun c_7 => ?_)
  refine a_iloadn_1 (pc := 10) dX12_burnsAs_10 ?_
  refine a_bipush (pc := 11) (v := nI 7) dX12_burnsAs_11 (by decide) ?_
  refine n_icmp_ne (tgt := 31) dX12_burnsAs_13 (by decide) (by decide) (by decide) (fun c_13 => by omega) (fun c_13 => ?_)
  refine a_aloadn_0 (pc := 16) dX12_burnsAs_16 ?_
  refine a_bipush (pc := 17) (v := nI 20) dX12_burnsAs_17 (by decide) ?_
  refine cv_X12_309 (pc := 19) rfl dX12_burnsAs_19 hm.2.2.1 (Nat.le_of_ble_eq_true rfl) ?_
  refine m_runs (by omega) hz hm (by omega) (fun h1 hm1 => ?_)
  have hr1 : (rn s 20).2 = s.2 + 1 := rfl
  refine a_aloadn_0 (pc := 22) dX12_burnsAs_22 ?_
  refine a_iconst (pc := 23) (v := nI 0) dX12_burnsAs_23 (by decide) ?_
  refine a_iloadn_2 (pc := 24) dX12_burnsAs_24 ?_
  refine cv_X12_312 (pc := 25) rfl dX12_burnsAs_25 hm1.2.2.1 (Nat.le_of_ble_eq_true rfl) ?_
  refine m_burnsAs_0 (by omega) hz hm1 ho (by omega) (fun h2 hm2 => ?_)
  have hl2 := bS_len n 0 ((x))
  have hr2 := rns_len (bS n 0 ((x))).2 (rn s 20)
  refine a_iconst (pc := 28) (v := nI 3) dX12_burnsAs_28 (by decide) ?_
  refine a_iadd (pc := 29) dX12_burnsAs_29 ?_
  exact a_iret (pc := 30) dX12_burnsAs_30 rfl (zf hz) (k9 _ (by rw [show rns s (bS n 7 x).2 = (rns (rn s 20) (bS n 0 ((x))).2) from (by first | rfl | exact rns_app _ _ _)]; exact hm2))
theorem m_burnsAs {G : Cx} {d : Nat} {h h0 : List va_E} {b : MB} {p : MP} {t : MT} {o : MO} {s : Rn} {Q : Option Value → List va_E → Prop} (hd : 4 ≤ d) (hz : gz G = false) (hm : MS G h0 h (uRan (uTrace b s.1) s.2, p, t, o)) {n sk : Nat} (ho : o.2.2.2.2.2.2.1 = sk ∧ o.2.2.2.2.2.2.2.1 = n) {k : Nat} {x : Int32} (hk : k < 8) (hr : s.2 < 990) (k9 : ∀ h1, MS G h0 h1 (uRan (uTrace b (rns s (bS n k x).2).1) (rns s (bS n k x).2).2, p, t, o) → Q (some (.int (bS n k x).1)) h1) : AM G yX12_burnsAs cX12_burnsAs 3 (some .int) d 0 0 [.ref (gB G + 80), .int (nI k), .int x] h Q := by
  rcases k8 hk with rfl | rfl | rfl | rfl | rfl | rfl | rfl | rfl
  · exact m_burnsAs_0 (by omega) hz hm ho (by omega) k9
  · exact m_burnsAs_1 (by omega) hz hm ho (by omega) k9
  · exact m_burnsAs_2 (by omega) hz hm ho (by omega) k9
  · exact m_burnsAs_3 (by omega) hz hm ho (by omega) k9
  · exact m_burnsAs_4 (by omega) hz hm ho (by omega) k9
  · exact m_burnsAs_5 (by omega) hz hm ho (by omega) k9
  · exact m_burnsAs_6 (by omega) hz hm ho (by omega) k9
  · exact m_burnsAs_7 (by omega) hz hm ho (by omega) k9
set_option maxRecDepth 100000 in
set_option maxHeartbeats 4000000 in
theorem m_looksAs_0 {G : Cx} {d : Nat} {h h0 : List va_E} {b : MB} {p : MP} {t : MT} {o : MO} {s : Rn} {Q : Option Value → List va_E → Prop} (hd : 2 ≤ d) (hz : gz G = false) (hm : MS G h0 h (uRan (uTrace b s.1) s.2, p, t, o)) {n sk : Nat} (ho : o.2.2.2.2.2.2.1 = sk ∧ o.2.2.2.2.2.2.2.1 = n) (hsk : sk < 8) {x : Int32} (hr : s.2 < 999) (k9 : ∀ h1, MS G h0 h1 (uRan (uTrace b (rns s (lS n sk 0 x).2).1) (rns s (lS n sk 0 x).2).2, p, t, o) → Q (some (.int (lS n sk 0 x).1)) h1) : AM G yX12_looksAs cX12_looksAs 4 (some .int) d 0 0 [.ref (gB G + 80), .int (nI 0), .int x] h Q := by
  obtain ⟨d, rfl, he⟩ := dpos hd
  refine AM.of [some (.ref (gB G + 80)), some (.int (nI 0)), some (.int x), none] pnX12 (Nat.le_of_ble_eq_true rfl) (by simp [lsub, lvI, Value.category]) ?_
  refine a_iloadn_1 (pc := 0) dX12_looksAs_0 ?_
  refine a_iconst (pc := 1) (v := nI 3) dX12_looksAs_1 (by decide) ?_
  refine n_icmp_eq (tgt := 10) dX12_looksAs_2 (by decide) (by decide) (by decide) (fun c_2 => by omega) (fun c_2 => ?_)
  refine a_iloadn_1 (pc := 5) dX12_looksAs_5 ?_
  refine a_iconst (pc := 6) (v := nI 5) dX12_looksAs_6 (by decide) ?_
  refine n_icmp_ne (tgt := 25) dX12_looksAs_7 (by decide) (by decide) (by decide) (fun c_7 => ?_) (fun c_7 => by omega)
  refine a_iloadn_1 (pc := 25) dX12_looksAs_25 ?_
  refine a_iconst (pc := 26) (v := nI 4) dX12_looksAs_26 (by decide) ?_
  refine n_icmp_eq (tgt := 36) dX12_looksAs_27 (by decide) (by decide) (by decide) (fun c_27 => by omega) (fun c_27 => ?_)
  refine a_iloadn_1 (pc := 30) dX12_looksAs_30 ?_
  refine a_bipush (pc := 31) (v := nI 7) dX12_looksAs_31 (by decide) ?_
  refine n_icmp_ne (tgt := 61) dX12_looksAs_33 (by decide) (by decide) (by decide) (fun c_33 => ?_) (fun c_33 => by omega)
  refine a_aloadn_0 (pc := 61) dX12_looksAs_61 ?_
  refine a_bipush (pc := 62) (v := nI 11) dX12_looksAs_62 (by decide) ?_
  refine cv_X12_309 (pc := 64) rfl dX12_looksAs_64 hm.2.2.1 (Nat.le_of_ble_eq_true rfl) ?_
  refine m_runs (by omega) hz hm (by omega) (fun h1 hm1 => ?_)
  have hr1 : (rn s 11).2 = s.2 + 1 := rfl
  refine a_iloadn_2 (pc := 67) dX12_looksAs_67 ?_
  refine a_aloadn_0 (pc := 68) dX12_looksAs_68 ?_
  refine mg_315 (x := n) hm1 rfl dX12_looksAs_69 ho.2 ?_
  refine a_ixor (pc := 72) dX12_looksAs_72 ?_
  exact a_iret (pc := 73) dX12_looksAs_73 rfl (zf hz) (k9 _ (by rw [show rns s (lS n sk 0 x).2 = (rn s 11) from (by first | rfl | exact rns_app _ _ _)]; exact hm1))
set_option maxRecDepth 100000 in
set_option maxHeartbeats 4000000 in
theorem m_looksAs_1 {G : Cx} {d : Nat} {h h0 : List va_E} {b : MB} {p : MP} {t : MT} {o : MO} {s : Rn} {Q : Option Value → List va_E → Prop} (hd : 2 ≤ d) (hz : gz G = false) (hm : MS G h0 h (uRan (uTrace b s.1) s.2, p, t, o)) {n sk : Nat} (ho : o.2.2.2.2.2.2.1 = sk ∧ o.2.2.2.2.2.2.2.1 = n) (hsk : sk < 8) {x : Int32} (hr : s.2 < 999) (k9 : ∀ h1, MS G h0 h1 (uRan (uTrace b (rns s (lS n sk 1 x).2).1) (rns s (lS n sk 1 x).2).2, p, t, o) → Q (some (.int (lS n sk 1 x).1)) h1) : AM G yX12_looksAs cX12_looksAs 4 (some .int) d 0 0 [.ref (gB G + 80), .int (nI 1), .int x] h Q := by
  obtain ⟨d, rfl, he⟩ := dpos hd
  refine AM.of [some (.ref (gB G + 80)), some (.int (nI 1)), some (.int x), none] pnX12 (Nat.le_of_ble_eq_true rfl) (by simp [lsub, lvI, Value.category]) ?_
  refine a_iloadn_1 (pc := 0) dX12_looksAs_0 ?_
  refine a_iconst (pc := 1) (v := nI 3) dX12_looksAs_1 (by decide) ?_
  refine n_icmp_eq (tgt := 10) dX12_looksAs_2 (by decide) (by decide) (by decide) (fun c_2 => by omega) (fun c_2 => ?_)
  refine a_iloadn_1 (pc := 5) dX12_looksAs_5 ?_
  refine a_iconst (pc := 6) (v := nI 5) dX12_looksAs_6 (by decide) ?_
  refine n_icmp_ne (tgt := 25) dX12_looksAs_7 (by decide) (by decide) (by decide) (fun c_7 => ?_) (fun c_7 => by omega)
  refine a_iloadn_1 (pc := 25) dX12_looksAs_25 ?_
  refine a_iconst (pc := 26) (v := nI 4) dX12_looksAs_26 (by decide) ?_
  refine n_icmp_eq (tgt := 36) dX12_looksAs_27 (by decide) (by decide) (by decide) (fun c_27 => by omega) (fun c_27 => ?_)
  refine a_iloadn_1 (pc := 30) dX12_looksAs_30 ?_
  refine a_bipush (pc := 31) (v := nI 7) dX12_looksAs_31 (by decide) ?_
  refine n_icmp_ne (tgt := 61) dX12_looksAs_33 (by decide) (by decide) (by decide) (fun c_33 => ?_) (fun c_33 => by omega)
  refine a_aloadn_0 (pc := 61) dX12_looksAs_61 ?_
  refine a_bipush (pc := 62) (v := nI 11) dX12_looksAs_62 (by decide) ?_
  refine cv_X12_309 (pc := 64) rfl dX12_looksAs_64 hm.2.2.1 (Nat.le_of_ble_eq_true rfl) ?_
  refine m_runs (by omega) hz hm (by omega) (fun h1 hm1 => ?_)
  have hr1 : (rn s 11).2 = s.2 + 1 := rfl
  refine a_iloadn_2 (pc := 67) dX12_looksAs_67 ?_
  refine a_aloadn_0 (pc := 68) dX12_looksAs_68 ?_
  refine mg_315 (x := n) hm1 rfl dX12_looksAs_69 ho.2 ?_
  refine a_ixor (pc := 72) dX12_looksAs_72 ?_
  exact a_iret (pc := 73) dX12_looksAs_73 rfl (zf hz) (k9 _ (by rw [show rns s (lS n sk 1 x).2 = (rn s 11) from (by first | rfl | exact rns_app _ _ _)]; exact hm1))
set_option maxRecDepth 100000 in
set_option maxHeartbeats 4000000 in
theorem m_looksAs_2 {G : Cx} {d : Nat} {h h0 : List va_E} {b : MB} {p : MP} {t : MT} {o : MO} {s : Rn} {Q : Option Value → List va_E → Prop} (hd : 2 ≤ d) (hz : gz G = false) (hm : MS G h0 h (uRan (uTrace b s.1) s.2, p, t, o)) {n sk : Nat} (ho : o.2.2.2.2.2.2.1 = sk ∧ o.2.2.2.2.2.2.2.1 = n) (hsk : sk < 8) {x : Int32} (hr : s.2 < 999) (k9 : ∀ h1, MS G h0 h1 (uRan (uTrace b (rns s (lS n sk 2 x).2).1) (rns s (lS n sk 2 x).2).2, p, t, o) → Q (some (.int (lS n sk 2 x).1)) h1) : AM G yX12_looksAs cX12_looksAs 4 (some .int) d 0 0 [.ref (gB G + 80), .int (nI 2), .int x] h Q := by
  obtain ⟨d, rfl, he⟩ := dpos hd
  refine AM.of [some (.ref (gB G + 80)), some (.int (nI 2)), some (.int x), none] pnX12 (Nat.le_of_ble_eq_true rfl) (by simp [lsub, lvI, Value.category]) ?_
  refine a_iloadn_1 (pc := 0) dX12_looksAs_0 ?_
  refine a_iconst (pc := 1) (v := nI 3) dX12_looksAs_1 (by decide) ?_
  refine n_icmp_eq (tgt := 10) dX12_looksAs_2 (by decide) (by decide) (by decide) (fun c_2 => by omega) (fun c_2 => ?_)
  refine a_iloadn_1 (pc := 5) dX12_looksAs_5 ?_
  refine a_iconst (pc := 6) (v := nI 5) dX12_looksAs_6 (by decide) ?_
  refine n_icmp_ne (tgt := 25) dX12_looksAs_7 (by decide) (by decide) (by decide) (fun c_7 => ?_) (fun c_7 => by omega)
  refine a_iloadn_1 (pc := 25) dX12_looksAs_25 ?_
  refine a_iconst (pc := 26) (v := nI 4) dX12_looksAs_26 (by decide) ?_
  refine n_icmp_eq (tgt := 36) dX12_looksAs_27 (by decide) (by decide) (by decide) (fun c_27 => by omega) (fun c_27 => ?_)
  refine a_iloadn_1 (pc := 30) dX12_looksAs_30 ?_
  refine a_bipush (pc := 31) (v := nI 7) dX12_looksAs_31 (by decide) ?_
  refine n_icmp_ne (tgt := 61) dX12_looksAs_33 (by decide) (by decide) (by decide) (fun c_33 => ?_) (fun c_33 => by omega)
  refine a_aloadn_0 (pc := 61) dX12_looksAs_61 ?_
  refine a_bipush (pc := 62) (v := nI 11) dX12_looksAs_62 (by decide) ?_
  refine cv_X12_309 (pc := 64) rfl dX12_looksAs_64 hm.2.2.1 (Nat.le_of_ble_eq_true rfl) ?_
  refine m_runs (by omega) hz hm (by omega) (fun h1 hm1 => ?_)
  have hr1 : (rn s 11).2 = s.2 + 1 := rfl
  refine a_iloadn_2 (pc := 67) dX12_looksAs_67 ?_
  refine a_aloadn_0 (pc := 68) dX12_looksAs_68 ?_
  refine mg_315 (x := n) hm1 rfl dX12_looksAs_69 ho.2 ?_
  refine a_ixor (pc := 72) dX12_looksAs_72 ?_
  exact a_iret (pc := 73) dX12_looksAs_73 rfl (zf hz) (k9 _ (by rw [show rns s (lS n sk 2 x).2 = (rn s 11) from (by first | rfl | exact rns_app _ _ _)]; exact hm1))
set_option maxRecDepth 100000 in
set_option maxHeartbeats 4000000 in
theorem m_looksAs_6 {G : Cx} {d : Nat} {h h0 : List va_E} {b : MB} {p : MP} {t : MT} {o : MO} {s : Rn} {Q : Option Value → List va_E → Prop} (hd : 2 ≤ d) (hz : gz G = false) (hm : MS G h0 h (uRan (uTrace b s.1) s.2, p, t, o)) {n sk : Nat} (ho : o.2.2.2.2.2.2.1 = sk ∧ o.2.2.2.2.2.2.2.1 = n) (hsk : sk < 8) {x : Int32} (hr : s.2 < 999) (k9 : ∀ h1, MS G h0 h1 (uRan (uTrace b (rns s (lS n sk 6 x).2).1) (rns s (lS n sk 6 x).2).2, p, t, o) → Q (some (.int (lS n sk 6 x).1)) h1) : AM G yX12_looksAs cX12_looksAs 4 (some .int) d 0 0 [.ref (gB G + 80), .int (nI 6), .int x] h Q := by
  obtain ⟨d, rfl, he⟩ := dpos hd
  refine AM.of [some (.ref (gB G + 80)), some (.int (nI 6)), some (.int x), none] pnX12 (Nat.le_of_ble_eq_true rfl) (by simp [lsub, lvI, Value.category]) ?_
  refine a_iloadn_1 (pc := 0) dX12_looksAs_0 ?_
  refine a_iconst (pc := 1) (v := nI 3) dX12_looksAs_1 (by decide) ?_
  refine n_icmp_eq (tgt := 10) dX12_looksAs_2 (by decide) (by decide) (by decide) (fun c_2 => by omega) (fun c_2 => ?_)
  refine a_iloadn_1 (pc := 5) dX12_looksAs_5 ?_
  refine a_iconst (pc := 6) (v := nI 5) dX12_looksAs_6 (by decide) ?_
  refine n_icmp_ne (tgt := 25) dX12_looksAs_7 (by decide) (by decide) (by decide) (fun c_7 => ?_) (fun c_7 => by omega)
  refine a_iloadn_1 (pc := 25) dX12_looksAs_25 ?_
  refine a_iconst (pc := 26) (v := nI 4) dX12_looksAs_26 (by decide) ?_
  refine n_icmp_eq (tgt := 36) dX12_looksAs_27 (by decide) (by decide) (by decide) (fun c_27 => by omega) (fun c_27 => ?_)
  refine a_iloadn_1 (pc := 30) dX12_looksAs_30 ?_
  refine a_bipush (pc := 31) (v := nI 7) dX12_looksAs_31 (by decide) ?_
  refine n_icmp_ne (tgt := 61) dX12_looksAs_33 (by decide) (by decide) (by decide) (fun c_33 => ?_) (fun c_33 => by omega)
  refine a_aloadn_0 (pc := 61) dX12_looksAs_61 ?_
  refine a_bipush (pc := 62) (v := nI 11) dX12_looksAs_62 (by decide) ?_
  refine cv_X12_309 (pc := 64) rfl dX12_looksAs_64 hm.2.2.1 (Nat.le_of_ble_eq_true rfl) ?_
  refine m_runs (by omega) hz hm (by omega) (fun h1 hm1 => ?_)
  have hr1 : (rn s 11).2 = s.2 + 1 := rfl
  refine a_iloadn_2 (pc := 67) dX12_looksAs_67 ?_
  refine a_aloadn_0 (pc := 68) dX12_looksAs_68 ?_
  refine mg_315 (x := n) hm1 rfl dX12_looksAs_69 ho.2 ?_
  refine a_ixor (pc := 72) dX12_looksAs_72 ?_
  exact a_iret (pc := 73) dX12_looksAs_73 rfl (zf hz) (k9 _ (by rw [show rns s (lS n sk 6 x).2 = (rn s 11) from (by first | rfl | exact rns_app _ _ _)]; exact hm1))
set_option maxRecDepth 100000 in
set_option maxHeartbeats 4000000 in
theorem m_looksAs_3 {G : Cx} {d : Nat} {h h0 : List va_E} {b : MB} {p : MP} {t : MT} {o : MO} {s : Rn} {Q : Option Value → List va_E → Prop} (hd : 5 ≤ d) (hz : gz G = false) (hm : MS G h0 h (uRan (uTrace b s.1) s.2, p, t, o)) {n sk : Nat} (ho : o.2.2.2.2.2.2.1 = sk ∧ o.2.2.2.2.2.2.2.1 = n) (hsk : sk < 8) {x : Int32} (hr : s.2 < 985) (k9 : ∀ h1, MS G h0 h1 (uRan (uTrace b (rns s (lS n sk 3 x).2).1) (rns s (lS n sk 3 x).2).2, p, t, o) → Q (some (.int (lS n sk 3 x).1)) h1) : AM G yX12_looksAs cX12_looksAs 4 (some .int) d 0 0 [.ref (gB G + 80), .int (nI 3), .int x] h Q := by
  obtain ⟨d, rfl, he⟩ := dpos hd
  refine AM.of [some (.ref (gB G + 80)), some (.int (nI 3)), some (.int x), none] pnX12 (Nat.le_of_ble_eq_true rfl) (by simp [lsub, lvI, Value.category]) ?_
  refine a_iloadn_1 (pc := 0) dX12_looksAs_0 ?_
  refine a_iconst (pc := 1) (v := nI 3) dX12_looksAs_1 (by decide) ?_
  refine n_icmp_eq (tgt := 10) dX12_looksAs_2 (by decide) (by decide) (by decide) (fun c_2 => ?_) (fun c_2 => by omega)
  refine a_aloadn_0 (pc := 10) dX12_looksAs_10 ?_
  refine a_bipush (pc := 11) (v := nI 40) dX12_looksAs_11 (by decide) ?_
  refine cv_X12_309 (pc := 13) rfl dX12_looksAs_13 hm.2.2.1 (Nat.le_of_ble_eq_true rfl) ?_
  refine m_runs (by omega) hz hm (by omega) (fun h1 hm1 => ?_)
  have hr1 : (rn s 40).2 = s.2 + 1 := rfl
  refine a_aloadn_0 (pc := 16) dX12_looksAs_16 ?_
  refine a_iconst (pc := 17) (v := nI 2) dX12_looksAs_17 (by decide) ?_
  refine a_iloadn_2 (pc := 18) dX12_looksAs_18 ?_
  refine cv_X12_324 (pc := 19) rfl dX12_looksAs_19 hm1.2.2.1 (Nat.le_of_ble_eq_true rfl) ?_
  refine m_looksAs_2 (by omega) hz hm1 ho hsk (by omega) (fun h2 hm2 => ?_)
  have hl2 := lS_len n sk 2 ((x))
  have hr2 := rns_len (lS n sk 2 ((x))).2 (rn s 40)
  refine a_iconst (pc := 22) (v := nI 3) dX12_looksAs_22 (by decide) ?_
  refine a_imul (pc := 23) dX12_looksAs_23 ?_
  exact a_iret (pc := 24) dX12_looksAs_24 rfl (zf hz) (k9 _ (by rw [show rns s (lS n sk 3 x).2 = (rns (rn s 40) (lS n sk 2 ((x))).2) from (by first | rfl | exact rns_app _ _ _)]; exact hm2))
set_option maxRecDepth 100000 in
set_option maxHeartbeats 4000000 in
theorem m_looksAs_5 {G : Cx} {d : Nat} {h h0 : List va_E} {b : MB} {p : MP} {t : MT} {o : MO} {s : Rn} {Q : Option Value → List va_E → Prop} (hd : 5 ≤ d) (hz : gz G = false) (hm : MS G h0 h (uRan (uTrace b s.1) s.2, p, t, o)) {n sk : Nat} (ho : o.2.2.2.2.2.2.1 = sk ∧ o.2.2.2.2.2.2.2.1 = n) (hsk : sk < 8) {x : Int32} (hr : s.2 < 985) (k9 : ∀ h1, MS G h0 h1 (uRan (uTrace b (rns s (lS n sk 5 x).2).1) (rns s (lS n sk 5 x).2).2, p, t, o) → Q (some (.int (lS n sk 5 x).1)) h1) : AM G yX12_looksAs cX12_looksAs 4 (some .int) d 0 0 [.ref (gB G + 80), .int (nI 5), .int x] h Q := by
  obtain ⟨d, rfl, he⟩ := dpos hd
  refine AM.of [some (.ref (gB G + 80)), some (.int (nI 5)), some (.int x), none] pnX12 (Nat.le_of_ble_eq_true rfl) (by simp [lsub, lvI, Value.category]) ?_
  refine a_iloadn_1 (pc := 0) dX12_looksAs_0 ?_
  refine a_iconst (pc := 1) (v := nI 3) dX12_looksAs_1 (by decide) ?_
  refine n_icmp_eq (tgt := 10) dX12_looksAs_2 (by decide) (by decide) (by decide) (fun c_2 => by omega) (fun c_2 => ?_)
  refine a_iloadn_1 (pc := 5) dX12_looksAs_5 ?_
  refine a_iconst (pc := 6) (v := nI 5) dX12_looksAs_6 (by decide) ?_
  refine n_icmp_ne (tgt := 25) dX12_looksAs_7 (by decide) (by decide) (by decide) (fun c_7 => by omega) (fun c_7 => ?_)
  refine a_aloadn_0 (pc := 10) dX12_looksAs_10 ?_
  refine a_bipush (pc := 11) (v := nI 40) dX12_looksAs_11 (by decide) ?_
  refine cv_X12_309 (pc := 13) rfl dX12_looksAs_13 hm.2.2.1 (Nat.le_of_ble_eq_true rfl) ?_
  refine m_runs (by omega) hz hm (by omega) (fun h1 hm1 => ?_)
  have hr1 : (rn s 40).2 = s.2 + 1 := rfl
  refine a_aloadn_0 (pc := 16) dX12_looksAs_16 ?_
  refine a_iconst (pc := 17) (v := nI 2) dX12_looksAs_17 (by decide) ?_
  refine a_iloadn_2 (pc := 18) dX12_looksAs_18 ?_
  refine cv_X12_324 (pc := 19) rfl dX12_looksAs_19 hm1.2.2.1 (Nat.le_of_ble_eq_true rfl) ?_
  refine m_looksAs_2 (by omega) hz hm1 ho hsk (by omega) (fun h2 hm2 => ?_)
  have hl2 := lS_len n sk 2 ((x))
  have hr2 := rns_len (lS n sk 2 ((x))).2 (rn s 40)
  refine a_iconst (pc := 22) (v := nI 3) dX12_looksAs_22 (by decide) ?_
  refine a_imul (pc := 23) dX12_looksAs_23 ?_
  exact a_iret (pc := 24) dX12_looksAs_24 rfl (zf hz) (k9 _ (by rw [show rns s (lS n sk 5 x).2 = (rns (rn s 40) (lS n sk 2 ((x))).2) from (by first | rfl | exact rns_app _ _ _)]; exact hm2))
set_option maxRecDepth 100000 in
set_option maxHeartbeats 4000000 in
theorem m_looksAs_4 {G : Cx} {d : Nat} {h h0 : List va_E} {b : MB} {p : MP} {t : MT} {o : MO} {s : Rn} {Q : Option Value → List va_E → Prop} (hd : 5 ≤ d) (hz : gz G = false) (hm : MS G h0 h (uRan (uTrace b s.1) s.2, p, t, o)) {n sk : Nat} (ho : o.2.2.2.2.2.2.1 = sk ∧ o.2.2.2.2.2.2.2.1 = n) (hsk : sk < 8) {x : Int32} (hr : s.2 < 985) (k9 : ∀ h1, MS G h0 h1 (uRan (uTrace b (rns s (lS n sk 4 x).2).1) (rns s (lS n sk 4 x).2).2, p, t, o) → Q (some (.int (lS n sk 4 x).1)) h1) : AM G yX12_looksAs cX12_looksAs 4 (some .int) d 0 0 [.ref (gB G + 80), .int (nI 4), .int x] h Q := by
  obtain ⟨d, rfl, he⟩ := dpos hd
  refine AM.of [some (.ref (gB G + 80)), some (.int (nI 4)), some (.int x), none] pnX12 (Nat.le_of_ble_eq_true rfl) (by simp [lsub, lvI, Value.category]) ?_
  refine a_iloadn_1 (pc := 0) dX12_looksAs_0 ?_
  refine a_iconst (pc := 1) (v := nI 3) dX12_looksAs_1 (by decide) ?_
  refine n_icmp_eq (tgt := 10) dX12_looksAs_2 (by decide) (by decide) (by decide) (fun c_2 => by omega) (fun c_2 => ?_)
  refine a_iloadn_1 (pc := 5) dX12_looksAs_5 ?_
  refine a_iconst (pc := 6) (v := nI 5) dX12_looksAs_6 (by decide) ?_
  refine n_icmp_ne (tgt := 25) dX12_looksAs_7 (by decide) (by decide) (by decide) (fun c_7 => ?_) (fun c_7 => by omega)
  refine a_iloadn_1 (pc := 25) dX12_looksAs_25 ?_
  refine a_iconst (pc := 26) (v := nI 4) dX12_looksAs_26 (by decide) ?_
  refine n_icmp_eq (tgt := 36) dX12_looksAs_27 (by decide) (by decide) (by decide) (fun c_27 => ?_) (fun c_27 => by omega)
  refine a_aloadn_0 (pc := 36) dX12_looksAs_36 ?_
  refine a_bipush (pc := 37) (v := nI 50) dX12_looksAs_37 (by decide) ?_
  refine cv_X12_309 (pc := 39) rfl dX12_looksAs_39 hm.2.2.1 (Nat.le_of_ble_eq_true rfl) ?_
  refine m_runs (by omega) hz hm (by omega) (fun h1 hm1 => ?_)
  have hr1 : (rn s 50).2 = s.2 + 1 := rfl
  refine a_aloadn_0 (pc := 42) dX12_looksAs_42 ?_
  refine a_iconst (pc := 43) (v := nI 1) dX12_looksAs_43 (by decide) ?_
  refine a_iloadn_2 (pc := 44) dX12_looksAs_44 ?_
  refine cv_X12_324 (pc := 45) rfl dX12_looksAs_45 hm1.2.2.1 (Nat.le_of_ble_eq_true rfl) ?_
  refine m_looksAs_1 (by omega) hz hm1 ho hsk (by omega) (fun h2 hm2 => ?_)
  have hl2 := lS_len n sk 1 ((x))
  have hr2 := rns_len (lS n sk 1 ((x))).2 (rn s 50)
  refine a_istoren_3 (pc := 48) dX12_looksAs_48 (by decide) (by first | rfl | trivial) ?_
  refine a_iloadn_3 (pc := 49) dX12_looksAs_49 ?_
  refine a_aloadn_0 (pc := 50) dX12_looksAs_50 ?_
  refine a_aloadn_0 (pc := 51) dX12_looksAs_51 ?_
  refine mg_321 (x := sk) hm2 rfl dX12_looksAs_52 ho.1 ?_
  refine a_iconst (pc := 55) (v := nI 2) dX12_looksAs_55 (by decide) ?_
  refine cv_X12_312 (pc := 56) rfl dX12_looksAs_56 hm2.2.2.1 (Nat.le_of_ble_eq_true rfl) ?_
  refine m_burnsAs (by omega) hz hm2 ho (k := sk) (by omega) (by omega) (fun h3 hm3 => ?_)
  have hl3 := bS_len n sk (nI (2))
  have hr3 := rns_len (bS n sk (nI (2))).2 (rns (rn s 50) (lS n sk 1 ((x))).2)
  refine a_isub (pc := 59) dX12_looksAs_59 ?_
  exact a_iret (pc := 60) dX12_looksAs_60 rfl (zf hz) (k9 _ (by rw [show rns s (lS n sk 4 x).2 = (rns (rns (rn s 50) (lS n sk 1 ((x))).2) (bS n sk (nI (2))).2) from (by first | rfl | exact rns_app _ _ _)]; exact hm3))
set_option maxRecDepth 100000 in
set_option maxHeartbeats 4000000 in
theorem m_looksAs_7 {G : Cx} {d : Nat} {h h0 : List va_E} {b : MB} {p : MP} {t : MT} {o : MO} {s : Rn} {Q : Option Value → List va_E → Prop} (hd : 5 ≤ d) (hz : gz G = false) (hm : MS G h0 h (uRan (uTrace b s.1) s.2, p, t, o)) {n sk : Nat} (ho : o.2.2.2.2.2.2.1 = sk ∧ o.2.2.2.2.2.2.2.1 = n) (hsk : sk < 8) {x : Int32} (hr : s.2 < 985) (k9 : ∀ h1, MS G h0 h1 (uRan (uTrace b (rns s (lS n sk 7 x).2).1) (rns s (lS n sk 7 x).2).2, p, t, o) → Q (some (.int (lS n sk 7 x).1)) h1) : AM G yX12_looksAs cX12_looksAs 4 (some .int) d 0 0 [.ref (gB G + 80), .int (nI 7), .int x] h Q := by
  obtain ⟨d, rfl, he⟩ := dpos hd
  refine AM.of [some (.ref (gB G + 80)), some (.int (nI 7)), some (.int x), none] pnX12 (Nat.le_of_ble_eq_true rfl) (by simp [lsub, lvI, Value.category]) ?_
  refine a_iloadn_1 (pc := 0) dX12_looksAs_0 ?_
  refine a_iconst (pc := 1) (v := nI 3) dX12_looksAs_1 (by decide) ?_
  refine n_icmp_eq (tgt := 10) dX12_looksAs_2 (by decide) (by decide) (by decide) (fun c_2 => by omega) (fun c_2 => ?_)
  refine a_iloadn_1 (pc := 5) dX12_looksAs_5 ?_
  refine a_iconst (pc := 6) (v := nI 5) dX12_looksAs_6 (by decide) ?_
  refine n_icmp_ne (tgt := 25) dX12_looksAs_7 (by decide) (by decide) (by decide) (fun c_7 => ?_) (fun c_7 => by omega)
  refine a_iloadn_1 (pc := 25) dX12_looksAs_25 ?_
  refine a_iconst (pc := 26) (v := nI 4) dX12_looksAs_26 (by decide) ?_
  refine n_icmp_eq (tgt := 36) dX12_looksAs_27 (by decide) (by decide) (by decide) (fun c_27 => by omega) (fun c_27 => ?_)
  refine a_iloadn_1 (pc := 30) dX12_looksAs_30 ?_
  refine a_bipush (pc := 31) (v := nI 7) dX12_looksAs_31 (by decide) ?_
  refine n_icmp_ne (tgt := 61) dX12_looksAs_33 (by decide) (by decide) (by decide) (fun c_33 => by omega) (fun c_33 => ?_)
  refine a_aloadn_0 (pc := 36) dX12_looksAs_36 ?_
  refine a_bipush (pc := 37) (v := nI 50) dX12_looksAs_37 (by decide) ?_
  refine cv_X12_309 (pc := 39) rfl dX12_looksAs_39 hm.2.2.1 (Nat.le_of_ble_eq_true rfl) ?_
  refine m_runs (by omega) hz hm (by omega) (fun h1 hm1 => ?_)
  have hr1 : (rn s 50).2 = s.2 + 1 := rfl
  refine a_aloadn_0 (pc := 42) dX12_looksAs_42 ?_
  refine a_iconst (pc := 43) (v := nI 1) dX12_looksAs_43 (by decide) ?_
  refine a_iloadn_2 (pc := 44) dX12_looksAs_44 ?_
  refine cv_X12_324 (pc := 45) rfl dX12_looksAs_45 hm1.2.2.1 (Nat.le_of_ble_eq_true rfl) ?_
  refine m_looksAs_1 (by omega) hz hm1 ho hsk (by omega) (fun h2 hm2 => ?_)
  have hl2 := lS_len n sk 1 ((x))
  have hr2 := rns_len (lS n sk 1 ((x))).2 (rn s 50)
  refine a_istoren_3 (pc := 48) dX12_looksAs_48 (by decide) (by first | rfl | trivial) ?_
  refine a_iloadn_3 (pc := 49) dX12_looksAs_49 ?_
  refine a_aloadn_0 (pc := 50) dX12_looksAs_50 ?_
  refine a_aloadn_0 (pc := 51) dX12_looksAs_51 ?_
  refine mg_321 (x := sk) hm2 rfl dX12_looksAs_52 ho.1 ?_
  refine a_iconst (pc := 55) (v := nI 2) dX12_looksAs_55 (by decide) ?_
  refine cv_X12_312 (pc := 56) rfl dX12_looksAs_56 hm2.2.2.1 (Nat.le_of_ble_eq_true rfl) ?_
  refine m_burnsAs (by omega) hz hm2 ho (k := sk) (by omega) (by omega) (fun h3 hm3 => ?_)
  have hl3 := bS_len n sk (nI (2))
  have hr3 := rns_len (bS n sk (nI (2))).2 (rns (rn s 50) (lS n sk 1 ((x))).2)
  refine a_isub (pc := 59) dX12_looksAs_59 ?_
  exact a_iret (pc := 60) dX12_looksAs_60 rfl (zf hz) (k9 _ (by rw [show rns s (lS n sk 7 x).2 = (rns (rns (rn s 50) (lS n sk 1 ((x))).2) (bS n sk (nI (2))).2) from (by first | rfl | exact rns_app _ _ _)]; exact hm3))
theorem m_looksAs {G : Cx} {d : Nat} {h h0 : List va_E} {b : MB} {p : MP} {t : MT} {o : MO} {s : Rn} {Q : Option Value → List va_E → Prop} (hd : 6 ≤ d) (hz : gz G = false) (hm : MS G h0 h (uRan (uTrace b s.1) s.2, p, t, o)) {n sk : Nat} (ho : o.2.2.2.2.2.2.1 = sk ∧ o.2.2.2.2.2.2.2.1 = n) (hsk : sk < 8) {k : Nat} {x : Int32} (hk : k < 8) (hr : s.2 < 980) (k9 : ∀ h1, MS G h0 h1 (uRan (uTrace b (rns s (lS n sk k x).2).1) (rns s (lS n sk k x).2).2, p, t, o) → Q (some (.int (lS n sk k x).1)) h1) : AM G yX12_looksAs cX12_looksAs 4 (some .int) d 0 0 [.ref (gB G + 80), .int (nI k), .int x] h Q := by
  rcases k8 hk with rfl | rfl | rfl | rfl | rfl | rfl | rfl | rfl
  · exact m_looksAs_0 (by omega) hz hm ho hsk (by omega) k9
  · exact m_looksAs_1 (by omega) hz hm ho hsk (by omega) k9
  · exact m_looksAs_2 (by omega) hz hm ho hsk (by omega) k9
  · exact m_looksAs_3 (by omega) hz hm ho hsk (by omega) k9
  · exact m_looksAs_4 (by omega) hz hm ho hsk (by omega) k9
  · exact m_looksAs_5 (by omega) hz hm ho hsk (by omega) k9
  · exact m_looksAs_6 (by omega) hz hm ho hsk (by omega) k9
  · exact m_looksAs_7 (by omega) hz hm ho hsk (by omega) k9
set_option maxRecDepth 100000 in
set_option maxHeartbeats 4000000 in
theorem m_holdsAs_0 {G : Cx} {d : Nat} {h h0 : List va_E} {b : MB} {p : MP} {t : MT} {o : MO} {s : Rn} {Q : Option Value → List va_E → Prop} (hd : 5 ≤ d) (hz : gz G = false) (hm : MS G h0 h (uRan (uTrace b s.1) s.2, p, t, o)) {n sk : Nat} (ho : o.2.2.2.2.2.2.1 = sk ∧ o.2.2.2.2.2.2.2.1 = n) (hsk : sk < 8) {x : Int32} (hr : s.2 < 985) (k9 : ∀ h1, MS G h0 h1 (uRan (uTrace b (rns s (hS n sk 0 x).2).1) (rns s (hS n sk 0 x).2).2, p, t, o) → Q (some (.int (hS n sk 0 x).1)) h1) : AM G yX12_holdsAs cX12_holdsAs 4 (some .int) d 0 0 [.ref (gB G + 80), .int (nI 0), .int x] h Q := by
  obtain ⟨d, rfl, he⟩ := dpos hd
  refine AM.of [some (.ref (gB G + 80)), some (.int (nI 0)), some (.int x), none] pnX12 (Nat.le_of_ble_eq_true rfl) (by simp [lsub, lvI, Value.category]) ?_
  refine a_iloadn_1 (pc := 0) dX12_holdsAs_0 ?_
  refine a_iconst (pc := 1) (v := nI 3) dX12_holdsAs_1 (by decide) ?_
  refine n_icmp_eq (tgt := 10) dX12_holdsAs_2 (by decide) (by decide) (by decide) (fun c_2 => by omega) (fun c_2 => ?_)
  refine a_iloadn_1 (pc := 5) dX12_holdsAs_5 ?_
  refine a_iconst (pc := 6) (v := nI 5) dX12_holdsAs_6 (by decide) ?_
  refine n_icmp_ne (tgt := 25) dX12_holdsAs_7 (by decide) (by decide) (by decide) (fun c_7 => ?_) (fun c_7 => by omega)
  refine a_iloadn_1 (pc := 25) dX12_holdsAs_25 ?_
  refine a_iconst (pc := 26) (v := nI 2) dX12_holdsAs_26 (by decide) ?_
  refine n_icmp_ne (tgt := 44) dX12_holdsAs_27 (by decide) (by decide) (by decide) (fun c_27 => ?_) (fun c_27 => by omega)
  refine a_iloadn_1 (pc := 44) dX12_holdsAs_44 ?_
  refine a_bipush (pc := 45) (v := nI 7) dX12_holdsAs_45 (by decide) ?_
  refine n_icmp_ne (tgt := 75) dX12_holdsAs_47 (by decide) (by decide) (by decide) (fun c_47 => ?_) (fun c_47 => by omega)
  refine a_aloadn_0 (pc := 75) dX12_holdsAs_75 ?_
  refine a_bipush (pc := 76) (v := nI 10) dX12_holdsAs_76 (by decide) ?_
  refine cv_X12_309 (pc := 78) rfl dX12_holdsAs_78 hm.2.2.1 (Nat.le_of_ble_eq_true rfl) ?_
  refine m_runs (by omega) hz hm (by omega) (fun h1 hm1 => ?_)
  have hr1 : (rn s 10).2 = s.2 + 1 := rfl
  refine a_aloadn_0 (pc := 81) dX12_holdsAs_81 ?_
  refine a_aloadn_0 (pc := 82) dX12_holdsAs_82 ?_
  refine mg_321 (x := sk) hm1 rfl dX12_holdsAs_83 ho.1 ?_
  refine a_iloadn_2 (pc := 86) dX12_holdsAs_86 ?_
  refine cv_X12_312 (pc := 87) rfl dX12_holdsAs_87 hm1.2.2.1 (Nat.le_of_ble_eq_true rfl) ?_
  refine m_burnsAs (by omega) hz hm1 ho (k := sk) (by omega) (by omega) (fun h2 hm2 => ?_)
  have hl2 := bS_len n sk ((x))
  have hr2 := rns_len (bS n sk ((x))).2 (rn s 10)
  refine a_iconst (pc := 90) (v := nI 2) dX12_holdsAs_90 (by decide) ?_
  refine a_imul (pc := 91) dX12_holdsAs_91 ?_
  exact a_iret (pc := 92) dX12_holdsAs_92 rfl (zf hz) (k9 _ (by rw [show rns s (hS n sk 0 x).2 = (rns (rn s 10) (bS n sk ((x))).2) from (by first | rfl | exact rns_app _ _ _)]; exact hm2))
set_option maxRecDepth 100000 in
set_option maxHeartbeats 4000000 in
theorem m_holdsAs_1 {G : Cx} {d : Nat} {h h0 : List va_E} {b : MB} {p : MP} {t : MT} {o : MO} {s : Rn} {Q : Option Value → List va_E → Prop} (hd : 5 ≤ d) (hz : gz G = false) (hm : MS G h0 h (uRan (uTrace b s.1) s.2, p, t, o)) {n sk : Nat} (ho : o.2.2.2.2.2.2.1 = sk ∧ o.2.2.2.2.2.2.2.1 = n) (hsk : sk < 8) {x : Int32} (hr : s.2 < 985) (k9 : ∀ h1, MS G h0 h1 (uRan (uTrace b (rns s (hS n sk 1 x).2).1) (rns s (hS n sk 1 x).2).2, p, t, o) → Q (some (.int (hS n sk 1 x).1)) h1) : AM G yX12_holdsAs cX12_holdsAs 4 (some .int) d 0 0 [.ref (gB G + 80), .int (nI 1), .int x] h Q := by
  obtain ⟨d, rfl, he⟩ := dpos hd
  refine AM.of [some (.ref (gB G + 80)), some (.int (nI 1)), some (.int x), none] pnX12 (Nat.le_of_ble_eq_true rfl) (by simp [lsub, lvI, Value.category]) ?_
  refine a_iloadn_1 (pc := 0) dX12_holdsAs_0 ?_
  refine a_iconst (pc := 1) (v := nI 3) dX12_holdsAs_1 (by decide) ?_
  refine n_icmp_eq (tgt := 10) dX12_holdsAs_2 (by decide) (by decide) (by decide) (fun c_2 => by omega) (fun c_2 => ?_)
  refine a_iloadn_1 (pc := 5) dX12_holdsAs_5 ?_
  refine a_iconst (pc := 6) (v := nI 5) dX12_holdsAs_6 (by decide) ?_
  refine n_icmp_ne (tgt := 25) dX12_holdsAs_7 (by decide) (by decide) (by decide) (fun c_7 => ?_) (fun c_7 => by omega)
  refine a_iloadn_1 (pc := 25) dX12_holdsAs_25 ?_
  refine a_iconst (pc := 26) (v := nI 2) dX12_holdsAs_26 (by decide) ?_
  refine n_icmp_ne (tgt := 44) dX12_holdsAs_27 (by decide) (by decide) (by decide) (fun c_27 => ?_) (fun c_27 => by omega)
  refine a_iloadn_1 (pc := 44) dX12_holdsAs_44 ?_
  refine a_bipush (pc := 45) (v := nI 7) dX12_holdsAs_45 (by decide) ?_
  refine n_icmp_ne (tgt := 75) dX12_holdsAs_47 (by decide) (by decide) (by decide) (fun c_47 => ?_) (fun c_47 => by omega)
  refine a_aloadn_0 (pc := 75) dX12_holdsAs_75 ?_
  refine a_bipush (pc := 76) (v := nI 10) dX12_holdsAs_76 (by decide) ?_
  refine cv_X12_309 (pc := 78) rfl dX12_holdsAs_78 hm.2.2.1 (Nat.le_of_ble_eq_true rfl) ?_
  refine m_runs (by omega) hz hm (by omega) (fun h1 hm1 => ?_)
  have hr1 : (rn s 10).2 = s.2 + 1 := rfl
  refine a_aloadn_0 (pc := 81) dX12_holdsAs_81 ?_
  refine a_aloadn_0 (pc := 82) dX12_holdsAs_82 ?_
  refine mg_321 (x := sk) hm1 rfl dX12_holdsAs_83 ho.1 ?_
  refine a_iloadn_2 (pc := 86) dX12_holdsAs_86 ?_
  refine cv_X12_312 (pc := 87) rfl dX12_holdsAs_87 hm1.2.2.1 (Nat.le_of_ble_eq_true rfl) ?_
  refine m_burnsAs (by omega) hz hm1 ho (k := sk) (by omega) (by omega) (fun h2 hm2 => ?_)
  have hl2 := bS_len n sk ((x))
  have hr2 := rns_len (bS n sk ((x))).2 (rn s 10)
  refine a_iconst (pc := 90) (v := nI 2) dX12_holdsAs_90 (by decide) ?_
  refine a_imul (pc := 91) dX12_holdsAs_91 ?_
  exact a_iret (pc := 92) dX12_holdsAs_92 rfl (zf hz) (k9 _ (by rw [show rns s (hS n sk 1 x).2 = (rns (rn s 10) (bS n sk ((x))).2) from (by first | rfl | exact rns_app _ _ _)]; exact hm2))
set_option maxRecDepth 100000 in
set_option maxHeartbeats 4000000 in
theorem m_holdsAs_4 {G : Cx} {d : Nat} {h h0 : List va_E} {b : MB} {p : MP} {t : MT} {o : MO} {s : Rn} {Q : Option Value → List va_E → Prop} (hd : 5 ≤ d) (hz : gz G = false) (hm : MS G h0 h (uRan (uTrace b s.1) s.2, p, t, o)) {n sk : Nat} (ho : o.2.2.2.2.2.2.1 = sk ∧ o.2.2.2.2.2.2.2.1 = n) (hsk : sk < 8) {x : Int32} (hr : s.2 < 985) (k9 : ∀ h1, MS G h0 h1 (uRan (uTrace b (rns s (hS n sk 4 x).2).1) (rns s (hS n sk 4 x).2).2, p, t, o) → Q (some (.int (hS n sk 4 x).1)) h1) : AM G yX12_holdsAs cX12_holdsAs 4 (some .int) d 0 0 [.ref (gB G + 80), .int (nI 4), .int x] h Q := by
  obtain ⟨d, rfl, he⟩ := dpos hd
  refine AM.of [some (.ref (gB G + 80)), some (.int (nI 4)), some (.int x), none] pnX12 (Nat.le_of_ble_eq_true rfl) (by simp [lsub, lvI, Value.category]) ?_
  refine a_iloadn_1 (pc := 0) dX12_holdsAs_0 ?_
  refine a_iconst (pc := 1) (v := nI 3) dX12_holdsAs_1 (by decide) ?_
  refine n_icmp_eq (tgt := 10) dX12_holdsAs_2 (by decide) (by decide) (by decide) (fun c_2 => by omega) (fun c_2 => ?_)
  refine a_iloadn_1 (pc := 5) dX12_holdsAs_5 ?_
  refine a_iconst (pc := 6) (v := nI 5) dX12_holdsAs_6 (by decide) ?_
  refine n_icmp_ne (tgt := 25) dX12_holdsAs_7 (by decide) (by decide) (by decide) (fun c_7 => ?_) (fun c_7 => by omega)
  refine a_iloadn_1 (pc := 25) dX12_holdsAs_25 ?_
  refine a_iconst (pc := 26) (v := nI 2) dX12_holdsAs_26 (by decide) ?_
  refine n_icmp_ne (tgt := 44) dX12_holdsAs_27 (by decide) (by decide) (by decide) (fun c_27 => ?_) (fun c_27 => by omega)
  refine a_iloadn_1 (pc := 44) dX12_holdsAs_44 ?_
  refine a_bipush (pc := 45) (v := nI 7) dX12_holdsAs_45 (by decide) ?_
  refine n_icmp_ne (tgt := 75) dX12_holdsAs_47 (by decide) (by decide) (by decide) (fun c_47 => ?_) (fun c_47 => by omega)
  refine a_aloadn_0 (pc := 75) dX12_holdsAs_75 ?_
  refine a_bipush (pc := 76) (v := nI 10) dX12_holdsAs_76 (by decide) ?_
  refine cv_X12_309 (pc := 78) rfl dX12_holdsAs_78 hm.2.2.1 (Nat.le_of_ble_eq_true rfl) ?_
  refine m_runs (by omega) hz hm (by omega) (fun h1 hm1 => ?_)
  have hr1 : (rn s 10).2 = s.2 + 1 := rfl
  refine a_aloadn_0 (pc := 81) dX12_holdsAs_81 ?_
  refine a_aloadn_0 (pc := 82) dX12_holdsAs_82 ?_
  refine mg_321 (x := sk) hm1 rfl dX12_holdsAs_83 ho.1 ?_
  refine a_iloadn_2 (pc := 86) dX12_holdsAs_86 ?_
  refine cv_X12_312 (pc := 87) rfl dX12_holdsAs_87 hm1.2.2.1 (Nat.le_of_ble_eq_true rfl) ?_
  refine m_burnsAs (by omega) hz hm1 ho (k := sk) (by omega) (by omega) (fun h2 hm2 => ?_)
  have hl2 := bS_len n sk ((x))
  have hr2 := rns_len (bS n sk ((x))).2 (rn s 10)
  refine a_iconst (pc := 90) (v := nI 2) dX12_holdsAs_90 (by decide) ?_
  refine a_imul (pc := 91) dX12_holdsAs_91 ?_
  exact a_iret (pc := 92) dX12_holdsAs_92 rfl (zf hz) (k9 _ (by rw [show rns s (hS n sk 4 x).2 = (rns (rn s 10) (bS n sk ((x))).2) from (by first | rfl | exact rns_app _ _ _)]; exact hm2))
set_option maxRecDepth 100000 in
set_option maxHeartbeats 4000000 in
theorem m_holdsAs_6 {G : Cx} {d : Nat} {h h0 : List va_E} {b : MB} {p : MP} {t : MT} {o : MO} {s : Rn} {Q : Option Value → List va_E → Prop} (hd : 5 ≤ d) (hz : gz G = false) (hm : MS G h0 h (uRan (uTrace b s.1) s.2, p, t, o)) {n sk : Nat} (ho : o.2.2.2.2.2.2.1 = sk ∧ o.2.2.2.2.2.2.2.1 = n) (hsk : sk < 8) {x : Int32} (hr : s.2 < 985) (k9 : ∀ h1, MS G h0 h1 (uRan (uTrace b (rns s (hS n sk 6 x).2).1) (rns s (hS n sk 6 x).2).2, p, t, o) → Q (some (.int (hS n sk 6 x).1)) h1) : AM G yX12_holdsAs cX12_holdsAs 4 (some .int) d 0 0 [.ref (gB G + 80), .int (nI 6), .int x] h Q := by
  obtain ⟨d, rfl, he⟩ := dpos hd
  refine AM.of [some (.ref (gB G + 80)), some (.int (nI 6)), some (.int x), none] pnX12 (Nat.le_of_ble_eq_true rfl) (by simp [lsub, lvI, Value.category]) ?_
  refine a_iloadn_1 (pc := 0) dX12_holdsAs_0 ?_
  refine a_iconst (pc := 1) (v := nI 3) dX12_holdsAs_1 (by decide) ?_
  refine n_icmp_eq (tgt := 10) dX12_holdsAs_2 (by decide) (by decide) (by decide) (fun c_2 => by omega) (fun c_2 => ?_)
  refine a_iloadn_1 (pc := 5) dX12_holdsAs_5 ?_
  refine a_iconst (pc := 6) (v := nI 5) dX12_holdsAs_6 (by decide) ?_
  refine n_icmp_ne (tgt := 25) dX12_holdsAs_7 (by decide) (by decide) (by decide) (fun c_7 => ?_) (fun c_7 => by omega)
  refine a_iloadn_1 (pc := 25) dX12_holdsAs_25 ?_
  refine a_iconst (pc := 26) (v := nI 2) dX12_holdsAs_26 (by decide) ?_
  refine n_icmp_ne (tgt := 44) dX12_holdsAs_27 (by decide) (by decide) (by decide) (fun c_27 => ?_) (fun c_27 => by omega)
  refine a_iloadn_1 (pc := 44) dX12_holdsAs_44 ?_
  refine a_bipush (pc := 45) (v := nI 7) dX12_holdsAs_45 (by decide) ?_
  refine n_icmp_ne (tgt := 75) dX12_holdsAs_47 (by decide) (by decide) (by decide) (fun c_47 => ?_) (fun c_47 => by omega)
  refine a_aloadn_0 (pc := 75) dX12_holdsAs_75 ?_
  refine a_bipush (pc := 76) (v := nI 10) dX12_holdsAs_76 (by decide) ?_
  refine cv_X12_309 (pc := 78) rfl dX12_holdsAs_78 hm.2.2.1 (Nat.le_of_ble_eq_true rfl) ?_
  refine m_runs (by omega) hz hm (by omega) (fun h1 hm1 => ?_)
  have hr1 : (rn s 10).2 = s.2 + 1 := rfl
  refine a_aloadn_0 (pc := 81) dX12_holdsAs_81 ?_
  refine a_aloadn_0 (pc := 82) dX12_holdsAs_82 ?_
  refine mg_321 (x := sk) hm1 rfl dX12_holdsAs_83 ho.1 ?_
  refine a_iloadn_2 (pc := 86) dX12_holdsAs_86 ?_
  refine cv_X12_312 (pc := 87) rfl dX12_holdsAs_87 hm1.2.2.1 (Nat.le_of_ble_eq_true rfl) ?_
  refine m_burnsAs (by omega) hz hm1 ho (k := sk) (by omega) (by omega) (fun h2 hm2 => ?_)
  have hl2 := bS_len n sk ((x))
  have hr2 := rns_len (bS n sk ((x))).2 (rn s 10)
  refine a_iconst (pc := 90) (v := nI 2) dX12_holdsAs_90 (by decide) ?_
  refine a_imul (pc := 91) dX12_holdsAs_91 ?_
  exact a_iret (pc := 92) dX12_holdsAs_92 rfl (zf hz) (k9 _ (by rw [show rns s (hS n sk 6 x).2 = (rns (rn s 10) (bS n sk ((x))).2) from (by first | rfl | exact rns_app _ _ _)]; exact hm2))
set_option maxRecDepth 100000 in
set_option maxHeartbeats 4000000 in
theorem m_holdsAs_2 {G : Cx} {d : Nat} {h h0 : List va_E} {b : MB} {p : MP} {t : MT} {o : MO} {s : Rn} {Q : Option Value → List va_E → Prop} (hd : 6 ≤ d) (hz : gz G = false) (hm : MS G h0 h (uRan (uTrace b s.1) s.2, p, t, o)) {n sk : Nat} (ho : o.2.2.2.2.2.2.1 = sk ∧ o.2.2.2.2.2.2.2.1 = n) (hsk : sk < 8) {x : Int32} (hr : s.2 < 984) (k9 : ∀ h1, MS G h0 h1 (uRan (uTrace b (rns s (hS n sk 2 x).2).1) (rns s (hS n sk 2 x).2).2, p, t, o) → Q (some (.int (hS n sk 2 x).1)) h1) : AM G yX12_holdsAs cX12_holdsAs 4 (some .int) d 0 0 [.ref (gB G + 80), .int (nI 2), .int x] h Q := by
  obtain ⟨d, rfl, he⟩ := dpos hd
  refine AM.of [some (.ref (gB G + 80)), some (.int (nI 2)), some (.int x), none] pnX12 (Nat.le_of_ble_eq_true rfl) (by simp [lsub, lvI, Value.category]) ?_
  refine a_iloadn_1 (pc := 0) dX12_holdsAs_0 ?_
  refine a_iconst (pc := 1) (v := nI 3) dX12_holdsAs_1 (by decide) ?_
  refine n_icmp_eq (tgt := 10) dX12_holdsAs_2 (by decide) (by decide) (by decide) (fun c_2 => by omega) (fun c_2 => ?_)
  refine a_iloadn_1 (pc := 5) dX12_holdsAs_5 ?_
  refine a_iconst (pc := 6) (v := nI 5) dX12_holdsAs_6 (by decide) ?_
  refine n_icmp_ne (tgt := 25) dX12_holdsAs_7 (by decide) (by decide) (by decide) (fun c_7 => ?_) (fun c_7 => by omega)
  refine a_iloadn_1 (pc := 25) dX12_holdsAs_25 ?_
  refine a_iconst (pc := 26) (v := nI 2) dX12_holdsAs_26 (by decide) ?_
  refine n_icmp_ne (tgt := 44) dX12_holdsAs_27 (by decide) (by decide) (by decide) (fun c_27 => by omega) (fun c_27 => ?_)
  refine a_aloadn_0 (pc := 30) dX12_holdsAs_30 ?_
  refine a_bipush (pc := 31) (v := nI 30) dX12_holdsAs_31 (by decide) ?_
  refine cv_X12_309 (pc := 33) rfl dX12_holdsAs_33 hm.2.2.1 (Nat.le_of_ble_eq_true rfl) ?_
  refine m_runs (by omega) hz hm (by omega) (fun h1 hm1 => ?_)
  have hr1 : (rn s 30).2 = s.2 + 1 := rfl
  refine a_aloadn_0 (pc := 36) dX12_holdsAs_36 ?_
  refine a_iconst (pc := 37) (v := nI 0) dX12_holdsAs_37 (by decide) ?_
  refine a_iloadn_2 (pc := 38) dX12_holdsAs_38 ?_
  refine cv_X12_318 (pc := 39) rfl dX12_holdsAs_39 hm1.2.2.1 (Nat.le_of_ble_eq_true rfl) ?_
  refine m_holdsAs_0 (by omega) hz hm1 ho hsk (by omega) (fun h2 hm2 => ?_)
  have hl2 := hS_len n sk 0 ((x))
  have hr2 := rns_len (hS n sk 0 ((x))).2 (rn s 30)
  refine a_ineg (pc := 42) dX12_holdsAs_42 ?_
  exact a_iret (pc := 43) dX12_holdsAs_43 rfl (zf hz) (k9 _ (by rw [show rns s (hS n sk 2 x).2 = (rns (rn s 30) (hS n sk 0 ((x))).2) from (by first | rfl | exact rns_app _ _ _)]; exact hm2))
set_option maxRecDepth 100000 in
set_option maxHeartbeats 4000000 in
theorem m_holdsAs_3 {G : Cx} {d : Nat} {h h0 : List va_E} {b : MB} {p : MP} {t : MT} {o : MO} {s : Rn} {Q : Option Value → List va_E → Prop} (hd : 7 ≤ d) (hz : gz G = false) (hm : MS G h0 h (uRan (uTrace b s.1) s.2, p, t, o)) {n sk : Nat} (ho : o.2.2.2.2.2.2.1 = sk ∧ o.2.2.2.2.2.2.2.1 = n) (hsk : sk < 8) {x : Int32} (hr : s.2 < 970) (k9 : ∀ h1, MS G h0 h1 (uRan (uTrace b (rns s (hS n sk 3 x).2).1) (rns s (hS n sk 3 x).2).2, p, t, o) → Q (some (.int (hS n sk 3 x).1)) h1) : AM G yX12_holdsAs cX12_holdsAs 4 (some .int) d 0 0 [.ref (gB G + 80), .int (nI 3), .int x] h Q := by
  obtain ⟨d, rfl, he⟩ := dpos hd
  refine AM.of [some (.ref (gB G + 80)), some (.int (nI 3)), some (.int x), none] pnX12 (Nat.le_of_ble_eq_true rfl) (by simp [lsub, lvI, Value.category]) ?_
  refine a_iloadn_1 (pc := 0) dX12_holdsAs_0 ?_
  refine a_iconst (pc := 1) (v := nI 3) dX12_holdsAs_1 (by decide) ?_
  refine n_icmp_eq (tgt := 10) dX12_holdsAs_2 (by decide) (by decide) (by decide) (fun c_2 => ?_) (fun c_2 => by omega)
  refine a_aloadn_0 (pc := 10) dX12_holdsAs_10 ?_
  refine a_bipush (pc := 11) (v := nI 41) dX12_holdsAs_11 (by decide) ?_
  refine cv_X12_309 (pc := 13) rfl dX12_holdsAs_13 hm.2.2.1 (Nat.le_of_ble_eq_true rfl) ?_
  refine m_runs (by omega) hz hm (by omega) (fun h1 hm1 => ?_)
  have hr1 : (rn s 41).2 = s.2 + 1 := rfl
  refine a_aloadn_0 (pc := 16) dX12_holdsAs_16 ?_
  refine a_iconst (pc := 17) (v := nI 2) dX12_holdsAs_17 (by decide) ?_
  refine a_iloadn_2 (pc := 18) dX12_holdsAs_18 ?_
  refine a_iconst (pc := 19) (v := nI 1) dX12_holdsAs_19 (by decide) ?_
  refine a_iadd (pc := 20) dX12_holdsAs_20 ?_
  refine cv_X12_318 (pc := 21) rfl dX12_holdsAs_21 hm1.2.2.1 (Nat.le_of_ble_eq_true rfl) ?_
  refine m_holdsAs_2 (by omega) hz hm1 ho hsk (by omega) (fun h2 hm2 => ?_)
  have hl2 := hS_len n sk 2 (((x) + nI (1)))
  have hr2 := rns_len (hS n sk 2 (((x) + nI (1)))).2 (rn s 41)
  exact a_iret (pc := 24) dX12_holdsAs_24 rfl (zf hz) (k9 _ (by rw [show rns s (hS n sk 3 x).2 = (rns (rn s 41) (hS n sk 2 (((x) + nI (1)))).2) from (by first | rfl | exact rns_app _ _ _)]; exact hm2))
set_option maxRecDepth 100000 in
set_option maxHeartbeats 4000000 in
theorem m_holdsAs_5 {G : Cx} {d : Nat} {h h0 : List va_E} {b : MB} {p : MP} {t : MT} {o : MO} {s : Rn} {Q : Option Value → List va_E → Prop} (hd : 7 ≤ d) (hz : gz G = false) (hm : MS G h0 h (uRan (uTrace b s.1) s.2, p, t, o)) {n sk : Nat} (ho : o.2.2.2.2.2.2.1 = sk ∧ o.2.2.2.2.2.2.2.1 = n) (hsk : sk < 8) {x : Int32} (hr : s.2 < 970) (k9 : ∀ h1, MS G h0 h1 (uRan (uTrace b (rns s (hS n sk 5 x).2).1) (rns s (hS n sk 5 x).2).2, p, t, o) → Q (some (.int (hS n sk 5 x).1)) h1) : AM G yX12_holdsAs cX12_holdsAs 4 (some .int) d 0 0 [.ref (gB G + 80), .int (nI 5), .int x] h Q := by
  obtain ⟨d, rfl, he⟩ := dpos hd
  refine AM.of [some (.ref (gB G + 80)), some (.int (nI 5)), some (.int x), none] pnX12 (Nat.le_of_ble_eq_true rfl) (by simp [lsub, lvI, Value.category]) ?_
  refine a_iloadn_1 (pc := 0) dX12_holdsAs_0 ?_
  refine a_iconst (pc := 1) (v := nI 3) dX12_holdsAs_1 (by decide) ?_
  refine n_icmp_eq (tgt := 10) dX12_holdsAs_2 (by decide) (by decide) (by decide) (fun c_2 => by omega) (fun c_2 => ?_)
  refine a_iloadn_1 (pc := 5) dX12_holdsAs_5 ?_
  refine a_iconst (pc := 6) (v := nI 5) dX12_holdsAs_6 (by decide) ?_
  refine n_icmp_ne (tgt := 25) dX12_holdsAs_7 (by decide) (by decide) (by decide) (fun c_7 => by omega) (fun c_7 => ?_)
  refine a_aloadn_0 (pc := 10) dX12_holdsAs_10 ?_
  refine a_bipush (pc := 11) (v := nI 41) dX12_holdsAs_11 (by decide) ?_
  refine cv_X12_309 (pc := 13) rfl dX12_holdsAs_13 hm.2.2.1 (Nat.le_of_ble_eq_true rfl) ?_
  refine m_runs (by omega) hz hm (by omega) (fun h1 hm1 => ?_)
  have hr1 : (rn s 41).2 = s.2 + 1 := rfl
  refine a_aloadn_0 (pc := 16) dX12_holdsAs_16 ?_
  refine a_iconst (pc := 17) (v := nI 2) dX12_holdsAs_17 (by decide) ?_
  refine a_iloadn_2 (pc := 18) dX12_holdsAs_18 ?_
  refine a_iconst (pc := 19) (v := nI 1) dX12_holdsAs_19 (by decide) ?_
  refine a_iadd (pc := 20) dX12_holdsAs_20 ?_
  refine cv_X12_318 (pc := 21) rfl dX12_holdsAs_21 hm1.2.2.1 (Nat.le_of_ble_eq_true rfl) ?_
  refine m_holdsAs_2 (by omega) hz hm1 ho hsk (by omega) (fun h2 hm2 => ?_)
  have hl2 := hS_len n sk 2 (((x) + nI (1)))
  have hr2 := rns_len (hS n sk 2 (((x) + nI (1)))).2 (rn s 41)
  exact a_iret (pc := 24) dX12_holdsAs_24 rfl (zf hz) (k9 _ (by rw [show rns s (hS n sk 5 x).2 = (rns (rn s 41) (hS n sk 2 (((x) + nI (1)))).2) from (by first | rfl | exact rns_app _ _ _)]; exact hm2))
set_option maxRecDepth 100000 in
set_option maxHeartbeats 4000000 in
theorem m_holdsAs_7 {G : Cx} {d : Nat} {h h0 : List va_E} {b : MB} {p : MP} {t : MT} {o : MO} {s : Rn} {Q : Option Value → List va_E → Prop} (hd : 7 ≤ d) (hz : gz G = false) (hm : MS G h0 h (uRan (uTrace b s.1) s.2, p, t, o)) {n sk : Nat} (ho : o.2.2.2.2.2.2.1 = sk ∧ o.2.2.2.2.2.2.2.1 = n) (hsk : sk < 8) {x : Int32} (hr : s.2 < 970) (k9 : ∀ h1, MS G h0 h1 (uRan (uTrace b (rns s (hS n sk 7 x).2).1) (rns s (hS n sk 7 x).2).2, p, t, o) → Q (some (.int (hS n sk 7 x).1)) h1) : AM G yX12_holdsAs cX12_holdsAs 4 (some .int) d 0 0 [.ref (gB G + 80), .int (nI 7), .int x] h Q := by
  obtain ⟨d, rfl, he⟩ := dpos hd
  refine AM.of [some (.ref (gB G + 80)), some (.int (nI 7)), some (.int x), none] pnX12 (Nat.le_of_ble_eq_true rfl) (by simp [lsub, lvI, Value.category]) ?_
  refine a_iloadn_1 (pc := 0) dX12_holdsAs_0 ?_
  refine a_iconst (pc := 1) (v := nI 3) dX12_holdsAs_1 (by decide) ?_
  refine n_icmp_eq (tgt := 10) dX12_holdsAs_2 (by decide) (by decide) (by decide) (fun c_2 => by omega) (fun c_2 => ?_)
  refine a_iloadn_1 (pc := 5) dX12_holdsAs_5 ?_
  refine a_iconst (pc := 6) (v := nI 5) dX12_holdsAs_6 (by decide) ?_
  refine n_icmp_ne (tgt := 25) dX12_holdsAs_7 (by decide) (by decide) (by decide) (fun c_7 => ?_) (fun c_7 => by omega)
  refine a_iloadn_1 (pc := 25) dX12_holdsAs_25 ?_
  refine a_iconst (pc := 26) (v := nI 2) dX12_holdsAs_26 (by decide) ?_
  refine n_icmp_ne (tgt := 44) dX12_holdsAs_27 (by decide) (by decide) (by decide) (fun c_27 => ?_) (fun c_27 => by omega)
  refine a_iloadn_1 (pc := 44) dX12_holdsAs_44 ?_
  refine a_bipush (pc := 45) (v := nI 7) dX12_holdsAs_45 (by decide) ?_
  refine n_icmp_ne (tgt := 75) dX12_holdsAs_47 (by decide) (by decide) (by decide) (fun c_47 => by omega) (fun c_47 => ?_)
  refine a_aloadn_0 (pc := 50) dX12_holdsAs_50 ?_
  refine a_bipush (pc := 51) (v := nI 80) dX12_holdsAs_51 (by decide) ?_
  refine cv_X12_309 (pc := 53) rfl dX12_holdsAs_53 hm.2.2.1 (Nat.le_of_ble_eq_true rfl) ?_
  refine m_runs (by omega) hz hm (by omega) (fun h1 hm1 => ?_)
  have hr1 : (rn s 80).2 = s.2 + 1 := rfl
  refine a_aloadn_0 (pc := 56) dX12_holdsAs_56 ?_
  refine a_iconst (pc := 57) (v := nI 4) dX12_holdsAs_57 (by decide) ?_
  refine a_iloadn_2 (pc := 58) dX12_holdsAs_58 ?_
  refine cv_X12_318 (pc := 59) rfl dX12_holdsAs_59 hm1.2.2.1 (Nat.le_of_ble_eq_true rfl) ?_
  refine m_holdsAs_4 (by omega) hz hm1 ho hsk (by omega) (fun h2 hm2 => ?_)
  have hl2 := hS_len n sk 4 ((x))
  have hr2 := rns_len (hS n sk 4 ((x))).2 (rn s 80)
  refine a_istoren_3 (pc := 62) dX12_holdsAs_62 (by decide) (by first | rfl | trivial) ?_
  refine a_iloadn_3 (pc := 63) dX12_holdsAs_63 ?_
  refine a_aloadn_0 (pc := 64) dX12_holdsAs_64 ?_
  refine a_aloadn_0 (pc := 65) dX12_holdsAs_65 ?_
  refine mg_321 (x := sk) hm2 rfl dX12_holdsAs_66 ho.1 ?_
  refine a_iconst (pc := 69) (v := nI 2) dX12_holdsAs_69 (by decide) ?_
  refine cv_X12_324 (pc := 70) rfl dX12_holdsAs_70 hm2.2.2.1 (Nat.le_of_ble_eq_true rfl) ?_
  refine m_looksAs (by omega) hz hm2 ho hsk (k := sk) (by omega) (by omega) (fun h3 hm3 => ?_)
  have hl3 := lS_len n sk sk (nI (2))
  have hr3 := rns_len (lS n sk sk (nI (2))).2 (rns (rn s 80) (hS n sk 4 ((x))).2)
  refine a_iadd (pc := 73) dX12_holdsAs_73 ?_
  exact a_iret (pc := 74) dX12_holdsAs_74 rfl (zf hz) (k9 _ (by rw [show rns s (hS n sk 7 x).2 = (rns (rns (rn s 80) (hS n sk 4 ((x))).2) (lS n sk sk (nI (2))).2) from (by first | rfl | exact rns_app _ _ _)]; exact hm3))
theorem m_holdsAs {G : Cx} {d : Nat} {h h0 : List va_E} {b : MB} {p : MP} {t : MT} {o : MO} {s : Rn} {Q : Option Value → List va_E → Prop} (hd : 9 ≤ d) (hz : gz G = false) (hm : MS G h0 h (uRan (uTrace b s.1) s.2, p, t, o)) {n sk : Nat} (ho : o.2.2.2.2.2.2.1 = sk ∧ o.2.2.2.2.2.2.2.1 = n) (hsk : sk < 8) {k : Nat} {x : Int32} (hk : k < 8) (hr : s.2 < 955) (k9 : ∀ h1, MS G h0 h1 (uRan (uTrace b (rns s (hS n sk k x).2).1) (rns s (hS n sk k x).2).2, p, t, o) → Q (some (.int (hS n sk k x).1)) h1) : AM G yX12_holdsAs cX12_holdsAs 4 (some .int) d 0 0 [.ref (gB G + 80), .int (nI k), .int x] h Q := by
  rcases k8 hk with rfl | rfl | rfl | rfl | rfl | rfl | rfl | rfl
  · exact m_holdsAs_0 (by omega) hz hm ho hsk (by omega) k9
  · exact m_holdsAs_1 (by omega) hz hm ho hsk (by omega) k9
  · exact m_holdsAs_2 (by omega) hz hm ho hsk (by omega) k9
  · exact m_holdsAs_3 (by omega) hz hm ho hsk (by omega) k9
  · exact m_holdsAs_4 (by omega) hz hm ho hsk (by omega) k9
  · exact m_holdsAs_5 (by omega) hz hm ho hsk (by omega) k9
  · exact m_holdsAs_6 (by omega) hz hm ho hsk (by omega) k9
  · exact m_holdsAs_7 (by omega) hz hm ho hsk (by omega) k9
set_option maxRecDepth 100000 in
set_option maxHeartbeats 4000000 in
theorem m_tellsAs_0 {G : Cx} {d : Nat} {h h0 : List va_E} {b : MB} {p : MP} {t : MT} {o : MO} {s : Rn} {Q : Option Value → List va_E → Prop} (hd : 10 ≤ d) (hz : gz G = false) (hm : MS G h0 h (uRan (uTrace b s.1) s.2, p, t, o)) {n sk : Nat} (ho : o.2.2.2.2.2.2.1 = sk ∧ o.2.2.2.2.2.2.2.1 = n) (hsk : sk < 8) {x : Int32} (hr : s.2 < 945) (k9 : ∀ h1, MS G h0 h1 (uRan (uTrace b (rns s (tlS n sk 0 x).2).1) (rns s (tlS n sk 0 x).2).2, p, t, o) → Q (some (.int (tlS n sk 0 x).1)) h1) : AM G yX12_tellsAs cX12_tellsAs 4 (some .int) d 0 0 [.ref (gB G + 80), .int (nI 0), .int x] h Q := by
  obtain ⟨d, rfl, he⟩ := dpos hd
  refine AM.of [some (.ref (gB G + 80)), some (.int (nI 0)), some (.int x), none] pnX12 (Nat.le_of_ble_eq_true rfl) (by simp [lsub, lvI, Value.category]) ?_
  refine a_iloadn_1 (pc := 0) dX12_tellsAs_0 ?_
  refine a_iconst (pc := 1) (v := nI 5) dX12_tellsAs_1 (by decide) ?_
  refine n_icmp_ne (tgt := 20) dX12_tellsAs_2 (by decide) (by decide) (by decide) (fun c_2 => ?_) (fun c_2 => by omega)
  refine a_iloadn_1 (pc := 20) dX12_tellsAs_20 ?_
  refine a_bipush (pc := 21) (v := nI 7) dX12_tellsAs_21 (by decide) ?_
  refine n_icmp_ne (tgt := 41) dX12_tellsAs_23 (by decide) (by decide) (by decide) (fun c_23 => ?_) (fun c_23 => by omega)
  refine a_aloadn_0 (pc := 41) dX12_tellsAs_41 ?_
  refine a_iconst (pc := 42) (v := nI 2) dX12_tellsAs_42 (by decide) ?_
  refine cv_X12_309 (pc := 43) rfl dX12_tellsAs_43 hm.2.2.1 (Nat.le_of_ble_eq_true rfl) ?_
  refine m_runs (by omega) hz hm (by omega) (fun h1 hm1 => ?_)
  have hr1 : (rn s 2).2 = s.2 + 1 := rfl
  refine a_aloadn_0 (pc := 46) dX12_tellsAs_46 ?_
  refine a_aloadn_0 (pc := 47) dX12_tellsAs_47 ?_
  refine mg_321 (x := sk) hm1 rfl dX12_tellsAs_48 ho.1 ?_
  refine a_iloadn_2 (pc := 51) dX12_tellsAs_51 ?_
  refine cv_X12_318 (pc := 52) rfl dX12_tellsAs_52 hm1.2.2.1 (Nat.le_of_ble_eq_true rfl) ?_
  refine m_holdsAs (by omega) hz hm1 ho hsk (k := sk) (by omega) (by omega) (fun h2 hm2 => ?_)
  have hl2 := hS_len n sk sk ((x))
  have hr2 := rns_len (hS n sk sk ((x))).2 (rn s 2)
  refine a_istoren_3 (pc := 55) dX12_tellsAs_55 (by decide) (by first | rfl | trivial) ?_
  refine a_iloadn_3 (pc := 56) dX12_tellsAs_56 ?_
  refine a_aloadn_0 (pc := 57) dX12_tellsAs_57 ?_
  refine a_aloadn_0 (pc := 58) dX12_tellsAs_58 ?_
  refine mg_321 (x := sk) hm2 rfl dX12_tellsAs_59 ho.1 ?_
  refine a_iconst (pc := 62) (v := nI 1) dX12_tellsAs_62 (by decide) ?_
  refine cv_X12_324 (pc := 63) rfl dX12_tellsAs_63 hm2.2.2.1 (Nat.le_of_ble_eq_true rfl) ?_
  refine m_looksAs (by omega) hz hm2 ho hsk (k := sk) (by omega) (by omega) (fun h3 hm3 => ?_)
  have hl3 := lS_len n sk sk (nI (1))
  have hr3 := rns_len (lS n sk sk (nI (1))).2 (rns (rn s 2) (hS n sk sk ((x))).2)
  refine a_isub (pc := 66) dX12_tellsAs_66 ?_
  exact a_iret (pc := 67) dX12_tellsAs_67 rfl (zf hz) (k9 _ (by rw [show rns s (tlS n sk 0 x).2 = (rns (rns (rn s 2) (hS n sk sk ((x))).2) (lS n sk sk (nI (1))).2) from (by first | rfl | exact rns_app _ _ _)]; exact hm3))
set_option maxRecDepth 100000 in
set_option maxHeartbeats 4000000 in
theorem m_tellsAs_1 {G : Cx} {d : Nat} {h h0 : List va_E} {b : MB} {p : MP} {t : MT} {o : MO} {s : Rn} {Q : Option Value → List va_E → Prop} (hd : 10 ≤ d) (hz : gz G = false) (hm : MS G h0 h (uRan (uTrace b s.1) s.2, p, t, o)) {n sk : Nat} (ho : o.2.2.2.2.2.2.1 = sk ∧ o.2.2.2.2.2.2.2.1 = n) (hsk : sk < 8) {x : Int32} (hr : s.2 < 945) (k9 : ∀ h1, MS G h0 h1 (uRan (uTrace b (rns s (tlS n sk 1 x).2).1) (rns s (tlS n sk 1 x).2).2, p, t, o) → Q (some (.int (tlS n sk 1 x).1)) h1) : AM G yX12_tellsAs cX12_tellsAs 4 (some .int) d 0 0 [.ref (gB G + 80), .int (nI 1), .int x] h Q := by
  obtain ⟨d, rfl, he⟩ := dpos hd
  refine AM.of [some (.ref (gB G + 80)), some (.int (nI 1)), some (.int x), none] pnX12 (Nat.le_of_ble_eq_true rfl) (by simp [lsub, lvI, Value.category]) ?_
  refine a_iloadn_1 (pc := 0) dX12_tellsAs_0 ?_
  refine a_iconst (pc := 1) (v := nI 5) dX12_tellsAs_1 (by decide) ?_
  refine n_icmp_ne (tgt := 20) dX12_tellsAs_2 (by decide) (by decide) (by decide) (fun c_2 => ?_) (fun c_2 => by omega)
  refine a_iloadn_1 (pc := 20) dX12_tellsAs_20 ?_
  refine a_bipush (pc := 21) (v := nI 7) dX12_tellsAs_21 (by decide) ?_
  refine n_icmp_ne (tgt := 41) dX12_tellsAs_23 (by decide) (by decide) (by decide) (fun c_23 => ?_) (fun c_23 => by omega)
  refine a_aloadn_0 (pc := 41) dX12_tellsAs_41 ?_
  refine a_iconst (pc := 42) (v := nI 2) dX12_tellsAs_42 (by decide) ?_
  refine cv_X12_309 (pc := 43) rfl dX12_tellsAs_43 hm.2.2.1 (Nat.le_of_ble_eq_true rfl) ?_
  refine m_runs (by omega) hz hm (by omega) (fun h1 hm1 => ?_)
  have hr1 : (rn s 2).2 = s.2 + 1 := rfl
  refine a_aloadn_0 (pc := 46) dX12_tellsAs_46 ?_
  refine a_aloadn_0 (pc := 47) dX12_tellsAs_47 ?_
  refine mg_321 (x := sk) hm1 rfl dX12_tellsAs_48 ho.1 ?_
  refine a_iloadn_2 (pc := 51) dX12_tellsAs_51 ?_
  refine cv_X12_318 (pc := 52) rfl dX12_tellsAs_52 hm1.2.2.1 (Nat.le_of_ble_eq_true rfl) ?_
  refine m_holdsAs (by omega) hz hm1 ho hsk (k := sk) (by omega) (by omega) (fun h2 hm2 => ?_)
  have hl2 := hS_len n sk sk ((x))
  have hr2 := rns_len (hS n sk sk ((x))).2 (rn s 2)
  refine a_istoren_3 (pc := 55) dX12_tellsAs_55 (by decide) (by first | rfl | trivial) ?_
  refine a_iloadn_3 (pc := 56) dX12_tellsAs_56 ?_
  refine a_aloadn_0 (pc := 57) dX12_tellsAs_57 ?_
  refine a_aloadn_0 (pc := 58) dX12_tellsAs_58 ?_
  refine mg_321 (x := sk) hm2 rfl dX12_tellsAs_59 ho.1 ?_
  refine a_iconst (pc := 62) (v := nI 1) dX12_tellsAs_62 (by decide) ?_
  refine cv_X12_324 (pc := 63) rfl dX12_tellsAs_63 hm2.2.2.1 (Nat.le_of_ble_eq_true rfl) ?_
  refine m_looksAs (by omega) hz hm2 ho hsk (k := sk) (by omega) (by omega) (fun h3 hm3 => ?_)
  have hl3 := lS_len n sk sk (nI (1))
  have hr3 := rns_len (lS n sk sk (nI (1))).2 (rns (rn s 2) (hS n sk sk ((x))).2)
  refine a_isub (pc := 66) dX12_tellsAs_66 ?_
  exact a_iret (pc := 67) dX12_tellsAs_67 rfl (zf hz) (k9 _ (by rw [show rns s (tlS n sk 1 x).2 = (rns (rns (rn s 2) (hS n sk sk ((x))).2) (lS n sk sk (nI (1))).2) from (by first | rfl | exact rns_app _ _ _)]; exact hm3))
set_option maxRecDepth 100000 in
set_option maxHeartbeats 4000000 in
theorem m_tellsAs_2 {G : Cx} {d : Nat} {h h0 : List va_E} {b : MB} {p : MP} {t : MT} {o : MO} {s : Rn} {Q : Option Value → List va_E → Prop} (hd : 10 ≤ d) (hz : gz G = false) (hm : MS G h0 h (uRan (uTrace b s.1) s.2, p, t, o)) {n sk : Nat} (ho : o.2.2.2.2.2.2.1 = sk ∧ o.2.2.2.2.2.2.2.1 = n) (hsk : sk < 8) {x : Int32} (hr : s.2 < 945) (k9 : ∀ h1, MS G h0 h1 (uRan (uTrace b (rns s (tlS n sk 2 x).2).1) (rns s (tlS n sk 2 x).2).2, p, t, o) → Q (some (.int (tlS n sk 2 x).1)) h1) : AM G yX12_tellsAs cX12_tellsAs 4 (some .int) d 0 0 [.ref (gB G + 80), .int (nI 2), .int x] h Q := by
  obtain ⟨d, rfl, he⟩ := dpos hd
  refine AM.of [some (.ref (gB G + 80)), some (.int (nI 2)), some (.int x), none] pnX12 (Nat.le_of_ble_eq_true rfl) (by simp [lsub, lvI, Value.category]) ?_
  refine a_iloadn_1 (pc := 0) dX12_tellsAs_0 ?_
  refine a_iconst (pc := 1) (v := nI 5) dX12_tellsAs_1 (by decide) ?_
  refine n_icmp_ne (tgt := 20) dX12_tellsAs_2 (by decide) (by decide) (by decide) (fun c_2 => ?_) (fun c_2 => by omega)
  refine a_iloadn_1 (pc := 20) dX12_tellsAs_20 ?_
  refine a_bipush (pc := 21) (v := nI 7) dX12_tellsAs_21 (by decide) ?_
  refine n_icmp_ne (tgt := 41) dX12_tellsAs_23 (by decide) (by decide) (by decide) (fun c_23 => ?_) (fun c_23 => by omega)
  refine a_aloadn_0 (pc := 41) dX12_tellsAs_41 ?_
  refine a_iconst (pc := 42) (v := nI 2) dX12_tellsAs_42 (by decide) ?_
  refine cv_X12_309 (pc := 43) rfl dX12_tellsAs_43 hm.2.2.1 (Nat.le_of_ble_eq_true rfl) ?_
  refine m_runs (by omega) hz hm (by omega) (fun h1 hm1 => ?_)
  have hr1 : (rn s 2).2 = s.2 + 1 := rfl
  refine a_aloadn_0 (pc := 46) dX12_tellsAs_46 ?_
  refine a_aloadn_0 (pc := 47) dX12_tellsAs_47 ?_
  refine mg_321 (x := sk) hm1 rfl dX12_tellsAs_48 ho.1 ?_
  refine a_iloadn_2 (pc := 51) dX12_tellsAs_51 ?_
  refine cv_X12_318 (pc := 52) rfl dX12_tellsAs_52 hm1.2.2.1 (Nat.le_of_ble_eq_true rfl) ?_
  refine m_holdsAs (by omega) hz hm1 ho hsk (k := sk) (by omega) (by omega) (fun h2 hm2 => ?_)
  have hl2 := hS_len n sk sk ((x))
  have hr2 := rns_len (hS n sk sk ((x))).2 (rn s 2)
  refine a_istoren_3 (pc := 55) dX12_tellsAs_55 (by decide) (by first | rfl | trivial) ?_
  refine a_iloadn_3 (pc := 56) dX12_tellsAs_56 ?_
  refine a_aloadn_0 (pc := 57) dX12_tellsAs_57 ?_
  refine a_aloadn_0 (pc := 58) dX12_tellsAs_58 ?_
  refine mg_321 (x := sk) hm2 rfl dX12_tellsAs_59 ho.1 ?_
  refine a_iconst (pc := 62) (v := nI 1) dX12_tellsAs_62 (by decide) ?_
  refine cv_X12_324 (pc := 63) rfl dX12_tellsAs_63 hm2.2.2.1 (Nat.le_of_ble_eq_true rfl) ?_
  refine m_looksAs (by omega) hz hm2 ho hsk (k := sk) (by omega) (by omega) (fun h3 hm3 => ?_)
  have hl3 := lS_len n sk sk (nI (1))
  have hr3 := rns_len (lS n sk sk (nI (1))).2 (rns (rn s 2) (hS n sk sk ((x))).2)
  refine a_isub (pc := 66) dX12_tellsAs_66 ?_
  exact a_iret (pc := 67) dX12_tellsAs_67 rfl (zf hz) (k9 _ (by rw [show rns s (tlS n sk 2 x).2 = (rns (rns (rn s 2) (hS n sk sk ((x))).2) (lS n sk sk (nI (1))).2) from (by first | rfl | exact rns_app _ _ _)]; exact hm3))
set_option maxRecDepth 100000 in
set_option maxHeartbeats 4000000 in
theorem m_tellsAs_3 {G : Cx} {d : Nat} {h h0 : List va_E} {b : MB} {p : MP} {t : MT} {o : MO} {s : Rn} {Q : Option Value → List va_E → Prop} (hd : 10 ≤ d) (hz : gz G = false) (hm : MS G h0 h (uRan (uTrace b s.1) s.2, p, t, o)) {n sk : Nat} (ho : o.2.2.2.2.2.2.1 = sk ∧ o.2.2.2.2.2.2.2.1 = n) (hsk : sk < 8) {x : Int32} (hr : s.2 < 945) (k9 : ∀ h1, MS G h0 h1 (uRan (uTrace b (rns s (tlS n sk 3 x).2).1) (rns s (tlS n sk 3 x).2).2, p, t, o) → Q (some (.int (tlS n sk 3 x).1)) h1) : AM G yX12_tellsAs cX12_tellsAs 4 (some .int) d 0 0 [.ref (gB G + 80), .int (nI 3), .int x] h Q := by
  obtain ⟨d, rfl, he⟩ := dpos hd
  refine AM.of [some (.ref (gB G + 80)), some (.int (nI 3)), some (.int x), none] pnX12 (Nat.le_of_ble_eq_true rfl) (by simp [lsub, lvI, Value.category]) ?_
  refine a_iloadn_1 (pc := 0) dX12_tellsAs_0 ?_
  refine a_iconst (pc := 1) (v := nI 5) dX12_tellsAs_1 (by decide) ?_
  refine n_icmp_ne (tgt := 20) dX12_tellsAs_2 (by decide) (by decide) (by decide) (fun c_2 => ?_) (fun c_2 => by omega)
  refine a_iloadn_1 (pc := 20) dX12_tellsAs_20 ?_
  refine a_bipush (pc := 21) (v := nI 7) dX12_tellsAs_21 (by decide) ?_
  refine n_icmp_ne (tgt := 41) dX12_tellsAs_23 (by decide) (by decide) (by decide) (fun c_23 => ?_) (fun c_23 => by omega)
  refine a_aloadn_0 (pc := 41) dX12_tellsAs_41 ?_
  refine a_iconst (pc := 42) (v := nI 2) dX12_tellsAs_42 (by decide) ?_
  refine cv_X12_309 (pc := 43) rfl dX12_tellsAs_43 hm.2.2.1 (Nat.le_of_ble_eq_true rfl) ?_
  refine m_runs (by omega) hz hm (by omega) (fun h1 hm1 => ?_)
  have hr1 : (rn s 2).2 = s.2 + 1 := rfl
  refine a_aloadn_0 (pc := 46) dX12_tellsAs_46 ?_
  refine a_aloadn_0 (pc := 47) dX12_tellsAs_47 ?_
  refine mg_321 (x := sk) hm1 rfl dX12_tellsAs_48 ho.1 ?_
  refine a_iloadn_2 (pc := 51) dX12_tellsAs_51 ?_
  refine cv_X12_318 (pc := 52) rfl dX12_tellsAs_52 hm1.2.2.1 (Nat.le_of_ble_eq_true rfl) ?_
  refine m_holdsAs (by omega) hz hm1 ho hsk (k := sk) (by omega) (by omega) (fun h2 hm2 => ?_)
  have hl2 := hS_len n sk sk ((x))
  have hr2 := rns_len (hS n sk sk ((x))).2 (rn s 2)
  refine a_istoren_3 (pc := 55) dX12_tellsAs_55 (by decide) (by first | rfl | trivial) ?_
  refine a_iloadn_3 (pc := 56) dX12_tellsAs_56 ?_
  refine a_aloadn_0 (pc := 57) dX12_tellsAs_57 ?_
  refine a_aloadn_0 (pc := 58) dX12_tellsAs_58 ?_
  refine mg_321 (x := sk) hm2 rfl dX12_tellsAs_59 ho.1 ?_
  refine a_iconst (pc := 62) (v := nI 1) dX12_tellsAs_62 (by decide) ?_
  refine cv_X12_324 (pc := 63) rfl dX12_tellsAs_63 hm2.2.2.1 (Nat.le_of_ble_eq_true rfl) ?_
  refine m_looksAs (by omega) hz hm2 ho hsk (k := sk) (by omega) (by omega) (fun h3 hm3 => ?_)
  have hl3 := lS_len n sk sk (nI (1))
  have hr3 := rns_len (lS n sk sk (nI (1))).2 (rns (rn s 2) (hS n sk sk ((x))).2)
  refine a_isub (pc := 66) dX12_tellsAs_66 ?_
  exact a_iret (pc := 67) dX12_tellsAs_67 rfl (zf hz) (k9 _ (by rw [show rns s (tlS n sk 3 x).2 = (rns (rns (rn s 2) (hS n sk sk ((x))).2) (lS n sk sk (nI (1))).2) from (by first | rfl | exact rns_app _ _ _)]; exact hm3))
set_option maxRecDepth 100000 in
set_option maxHeartbeats 4000000 in
theorem m_tellsAs_4 {G : Cx} {d : Nat} {h h0 : List va_E} {b : MB} {p : MP} {t : MT} {o : MO} {s : Rn} {Q : Option Value → List va_E → Prop} (hd : 10 ≤ d) (hz : gz G = false) (hm : MS G h0 h (uRan (uTrace b s.1) s.2, p, t, o)) {n sk : Nat} (ho : o.2.2.2.2.2.2.1 = sk ∧ o.2.2.2.2.2.2.2.1 = n) (hsk : sk < 8) {x : Int32} (hr : s.2 < 945) (k9 : ∀ h1, MS G h0 h1 (uRan (uTrace b (rns s (tlS n sk 4 x).2).1) (rns s (tlS n sk 4 x).2).2, p, t, o) → Q (some (.int (tlS n sk 4 x).1)) h1) : AM G yX12_tellsAs cX12_tellsAs 4 (some .int) d 0 0 [.ref (gB G + 80), .int (nI 4), .int x] h Q := by
  obtain ⟨d, rfl, he⟩ := dpos hd
  refine AM.of [some (.ref (gB G + 80)), some (.int (nI 4)), some (.int x), none] pnX12 (Nat.le_of_ble_eq_true rfl) (by simp [lsub, lvI, Value.category]) ?_
  refine a_iloadn_1 (pc := 0) dX12_tellsAs_0 ?_
  refine a_iconst (pc := 1) (v := nI 5) dX12_tellsAs_1 (by decide) ?_
  refine n_icmp_ne (tgt := 20) dX12_tellsAs_2 (by decide) (by decide) (by decide) (fun c_2 => ?_) (fun c_2 => by omega)
  refine a_iloadn_1 (pc := 20) dX12_tellsAs_20 ?_
  refine a_bipush (pc := 21) (v := nI 7) dX12_tellsAs_21 (by decide) ?_
  refine n_icmp_ne (tgt := 41) dX12_tellsAs_23 (by decide) (by decide) (by decide) (fun c_23 => ?_) (fun c_23 => by omega)
  refine a_aloadn_0 (pc := 41) dX12_tellsAs_41 ?_
  refine a_iconst (pc := 42) (v := nI 2) dX12_tellsAs_42 (by decide) ?_
  refine cv_X12_309 (pc := 43) rfl dX12_tellsAs_43 hm.2.2.1 (Nat.le_of_ble_eq_true rfl) ?_
  refine m_runs (by omega) hz hm (by omega) (fun h1 hm1 => ?_)
  have hr1 : (rn s 2).2 = s.2 + 1 := rfl
  refine a_aloadn_0 (pc := 46) dX12_tellsAs_46 ?_
  refine a_aloadn_0 (pc := 47) dX12_tellsAs_47 ?_
  refine mg_321 (x := sk) hm1 rfl dX12_tellsAs_48 ho.1 ?_
  refine a_iloadn_2 (pc := 51) dX12_tellsAs_51 ?_
  refine cv_X12_318 (pc := 52) rfl dX12_tellsAs_52 hm1.2.2.1 (Nat.le_of_ble_eq_true rfl) ?_
  refine m_holdsAs (by omega) hz hm1 ho hsk (k := sk) (by omega) (by omega) (fun h2 hm2 => ?_)
  have hl2 := hS_len n sk sk ((x))
  have hr2 := rns_len (hS n sk sk ((x))).2 (rn s 2)
  refine a_istoren_3 (pc := 55) dX12_tellsAs_55 (by decide) (by first | rfl | trivial) ?_
  refine a_iloadn_3 (pc := 56) dX12_tellsAs_56 ?_
  refine a_aloadn_0 (pc := 57) dX12_tellsAs_57 ?_
  refine a_aloadn_0 (pc := 58) dX12_tellsAs_58 ?_
  refine mg_321 (x := sk) hm2 rfl dX12_tellsAs_59 ho.1 ?_
  refine a_iconst (pc := 62) (v := nI 1) dX12_tellsAs_62 (by decide) ?_
  refine cv_X12_324 (pc := 63) rfl dX12_tellsAs_63 hm2.2.2.1 (Nat.le_of_ble_eq_true rfl) ?_
  refine m_looksAs (by omega) hz hm2 ho hsk (k := sk) (by omega) (by omega) (fun h3 hm3 => ?_)
  have hl3 := lS_len n sk sk (nI (1))
  have hr3 := rns_len (lS n sk sk (nI (1))).2 (rns (rn s 2) (hS n sk sk ((x))).2)
  refine a_isub (pc := 66) dX12_tellsAs_66 ?_
  exact a_iret (pc := 67) dX12_tellsAs_67 rfl (zf hz) (k9 _ (by rw [show rns s (tlS n sk 4 x).2 = (rns (rns (rn s 2) (hS n sk sk ((x))).2) (lS n sk sk (nI (1))).2) from (by first | rfl | exact rns_app _ _ _)]; exact hm3))
set_option maxRecDepth 100000 in
set_option maxHeartbeats 4000000 in
theorem m_tellsAs_6 {G : Cx} {d : Nat} {h h0 : List va_E} {b : MB} {p : MP} {t : MT} {o : MO} {s : Rn} {Q : Option Value → List va_E → Prop} (hd : 10 ≤ d) (hz : gz G = false) (hm : MS G h0 h (uRan (uTrace b s.1) s.2, p, t, o)) {n sk : Nat} (ho : o.2.2.2.2.2.2.1 = sk ∧ o.2.2.2.2.2.2.2.1 = n) (hsk : sk < 8) {x : Int32} (hr : s.2 < 945) (k9 : ∀ h1, MS G h0 h1 (uRan (uTrace b (rns s (tlS n sk 6 x).2).1) (rns s (tlS n sk 6 x).2).2, p, t, o) → Q (some (.int (tlS n sk 6 x).1)) h1) : AM G yX12_tellsAs cX12_tellsAs 4 (some .int) d 0 0 [.ref (gB G + 80), .int (nI 6), .int x] h Q := by
  obtain ⟨d, rfl, he⟩ := dpos hd
  refine AM.of [some (.ref (gB G + 80)), some (.int (nI 6)), some (.int x), none] pnX12 (Nat.le_of_ble_eq_true rfl) (by simp [lsub, lvI, Value.category]) ?_
  refine a_iloadn_1 (pc := 0) dX12_tellsAs_0 ?_
  refine a_iconst (pc := 1) (v := nI 5) dX12_tellsAs_1 (by decide) ?_
  refine n_icmp_ne (tgt := 20) dX12_tellsAs_2 (by decide) (by decide) (by decide) (fun c_2 => ?_) (fun c_2 => by omega)
  refine a_iloadn_1 (pc := 20) dX12_tellsAs_20 ?_
  refine a_bipush (pc := 21) (v := nI 7) dX12_tellsAs_21 (by decide) ?_
  refine n_icmp_ne (tgt := 41) dX12_tellsAs_23 (by decide) (by decide) (by decide) (fun c_23 => ?_) (fun c_23 => by omega)
  refine a_aloadn_0 (pc := 41) dX12_tellsAs_41 ?_
  refine a_iconst (pc := 42) (v := nI 2) dX12_tellsAs_42 (by decide) ?_
  refine cv_X12_309 (pc := 43) rfl dX12_tellsAs_43 hm.2.2.1 (Nat.le_of_ble_eq_true rfl) ?_
  refine m_runs (by omega) hz hm (by omega) (fun h1 hm1 => ?_)
  have hr1 : (rn s 2).2 = s.2 + 1 := rfl
  refine a_aloadn_0 (pc := 46) dX12_tellsAs_46 ?_
  refine a_aloadn_0 (pc := 47) dX12_tellsAs_47 ?_
  refine mg_321 (x := sk) hm1 rfl dX12_tellsAs_48 ho.1 ?_
  refine a_iloadn_2 (pc := 51) dX12_tellsAs_51 ?_
  refine cv_X12_318 (pc := 52) rfl dX12_tellsAs_52 hm1.2.2.1 (Nat.le_of_ble_eq_true rfl) ?_
  refine m_holdsAs (by omega) hz hm1 ho hsk (k := sk) (by omega) (by omega) (fun h2 hm2 => ?_)
  have hl2 := hS_len n sk sk ((x))
  have hr2 := rns_len (hS n sk sk ((x))).2 (rn s 2)
  refine a_istoren_3 (pc := 55) dX12_tellsAs_55 (by decide) (by first | rfl | trivial) ?_
  refine a_iloadn_3 (pc := 56) dX12_tellsAs_56 ?_
  refine a_aloadn_0 (pc := 57) dX12_tellsAs_57 ?_
  refine a_aloadn_0 (pc := 58) dX12_tellsAs_58 ?_
  refine mg_321 (x := sk) hm2 rfl dX12_tellsAs_59 ho.1 ?_
  refine a_iconst (pc := 62) (v := nI 1) dX12_tellsAs_62 (by decide) ?_
  refine cv_X12_324 (pc := 63) rfl dX12_tellsAs_63 hm2.2.2.1 (Nat.le_of_ble_eq_true rfl) ?_
  refine m_looksAs (by omega) hz hm2 ho hsk (k := sk) (by omega) (by omega) (fun h3 hm3 => ?_)
  have hl3 := lS_len n sk sk (nI (1))
  have hr3 := rns_len (lS n sk sk (nI (1))).2 (rns (rn s 2) (hS n sk sk ((x))).2)
  refine a_isub (pc := 66) dX12_tellsAs_66 ?_
  exact a_iret (pc := 67) dX12_tellsAs_67 rfl (zf hz) (k9 _ (by rw [show rns s (tlS n sk 6 x).2 = (rns (rns (rn s 2) (hS n sk sk ((x))).2) (lS n sk sk (nI (1))).2) from (by first | rfl | exact rns_app _ _ _)]; exact hm3))
set_option maxRecDepth 100000 in
set_option maxHeartbeats 4000000 in
theorem m_tellsAs_5 {G : Cx} {d : Nat} {h h0 : List va_E} {b : MB} {p : MP} {t : MT} {o : MO} {s : Rn} {Q : Option Value → List va_E → Prop} (hd : 11 ≤ d) (hz : gz G = false) (hm : MS G h0 h (uRan (uTrace b s.1) s.2, p, t, o)) {n sk : Nat} (ho : o.2.2.2.2.2.2.1 = sk ∧ o.2.2.2.2.2.2.2.1 = n) (hsk : sk < 8) {x : Int32} (hr : s.2 < 940) (k9 : ∀ h1, MS G h0 h1 (uRan (uTrace b (rns s (tlS n sk 5 x).2).1) (rns s (tlS n sk 5 x).2).2, p, t, o) → Q (some (.int (tlS n sk 5 x).1)) h1) : AM G yX12_tellsAs cX12_tellsAs 4 (some .int) d 0 0 [.ref (gB G + 80), .int (nI 5), .int x] h Q := by
  obtain ⟨d, rfl, he⟩ := dpos hd
  refine AM.of [some (.ref (gB G + 80)), some (.int (nI 5)), some (.int x), none] pnX12 (Nat.le_of_ble_eq_true rfl) (by simp [lsub, lvI, Value.category]) ?_
  refine a_iloadn_1 (pc := 0) dX12_tellsAs_0 ?_
  refine a_iconst (pc := 1) (v := nI 5) dX12_tellsAs_1 (by decide) ?_
  refine n_icmp_ne (tgt := 20) dX12_tellsAs_2 (by decide) (by decide) (by decide) (fun c_2 => by omega) (fun c_2 => ?_)
  refine a_aloadn_0 (pc := 5) dX12_tellsAs_5 ?_
  refine a_bipush (pc := 6) (v := nI 60) dX12_tellsAs_6 (by decide) ?_
  refine cv_X12_309 (pc := 8) rfl dX12_tellsAs_8 hm.2.2.1 (Nat.le_of_ble_eq_true rfl) ?_
  refine m_runs (by omega) hz hm (by omega) (fun h1 hm1 => ?_)
  have hr1 : (rn s 60).2 = s.2 + 1 := rfl
  refine a_aloadn_0 (pc := 11) dX12_tellsAs_11 ?_
  refine a_iconst (pc := 12) (v := nI 3) dX12_tellsAs_12 (by decide) ?_
  refine a_iloadn_2 (pc := 13) dX12_tellsAs_13 ?_
  refine cv_X12_327 (pc := 14) rfl dX12_tellsAs_14 hm1.2.2.1 (Nat.le_of_ble_eq_true rfl) ?_
  refine m_tellsAs_3 (by omega) hz hm1 ho hsk (by omega) (fun h2 hm2 => ?_)
  have hl2 := tlS_len n sk 3 ((x))
  have hr2 := rns_len (tlS n sk 3 ((x))).2 (rn s 60)
  refine a_iconst (pc := 17) (v := nI 5) dX12_tellsAs_17 (by decide) ?_
  refine a_ixor (pc := 18) dX12_tellsAs_18 ?_
  exact a_iret (pc := 19) dX12_tellsAs_19 rfl (zf hz) (k9 _ (by rw [show rns s (tlS n sk 5 x).2 = (rns (rn s 60) (tlS n sk 3 ((x))).2) from (by first | rfl | exact rns_app _ _ _)]; exact hm2))
set_option maxRecDepth 100000 in
set_option maxHeartbeats 4000000 in
theorem m_tellsAs_7 {G : Cx} {d : Nat} {h h0 : List va_E} {b : MB} {p : MP} {t : MT} {o : MO} {s : Rn} {Q : Option Value → List va_E → Prop} (hd : 11 ≤ d) (hz : gz G = false) (hm : MS G h0 h (uRan (uTrace b s.1) s.2, p, t, o)) {n sk : Nat} (ho : o.2.2.2.2.2.2.1 = sk ∧ o.2.2.2.2.2.2.2.1 = n) (hsk : sk < 8) {x : Int32} (hr : s.2 < 940) (k9 : ∀ h1, MS G h0 h1 (uRan (uTrace b (rns s (tlS n sk 7 x).2).1) (rns s (tlS n sk 7 x).2).2, p, t, o) → Q (some (.int (tlS n sk 7 x).1)) h1) : AM G yX12_tellsAs cX12_tellsAs 4 (some .int) d 0 0 [.ref (gB G + 80), .int (nI 7), .int x] h Q := by
  obtain ⟨d, rfl, he⟩ := dpos hd
  refine AM.of [some (.ref (gB G + 80)), some (.int (nI 7)), some (.int x), none] pnX12 (Nat.le_of_ble_eq_true rfl) (by simp [lsub, lvI, Value.category]) ?_
  refine a_iloadn_1 (pc := 0) dX12_tellsAs_0 ?_
  refine a_iconst (pc := 1) (v := nI 5) dX12_tellsAs_1 (by decide) ?_
  refine n_icmp_ne (tgt := 20) dX12_tellsAs_2 (by decide) (by decide) (by decide) (fun c_2 => ?_) (fun c_2 => by omega)
  refine a_iloadn_1 (pc := 20) dX12_tellsAs_20 ?_
  refine a_bipush (pc := 21) (v := nI 7) dX12_tellsAs_21 (by decide) ?_
  refine n_icmp_ne (tgt := 41) dX12_tellsAs_23 (by decide) (by decide) (by decide) (fun c_23 => by omega) (fun c_23 => ?_)
  refine a_aloadn_0 (pc := 26) dX12_tellsAs_26 ?_
  refine a_bipush (pc := 27) (v := nI 81) dX12_tellsAs_27 (by decide) ?_
  refine cv_X12_309 (pc := 29) rfl dX12_tellsAs_29 hm.2.2.1 (Nat.le_of_ble_eq_true rfl) ?_
  refine m_runs (by omega) hz hm (by omega) (fun h1 hm1 => ?_)
  have hr1 : (rn s 81).2 = s.2 + 1 := rfl
  refine a_aloadn_0 (pc := 32) dX12_tellsAs_32 ?_
  refine a_iconst (pc := 33) (v := nI 4) dX12_tellsAs_33 (by decide) ?_
  refine a_iloadn_2 (pc := 34) dX12_tellsAs_34 ?_
  refine cv_X12_327 (pc := 35) rfl dX12_tellsAs_35 hm1.2.2.1 (Nat.le_of_ble_eq_true rfl) ?_
  refine m_tellsAs_4 (by omega) hz hm1 ho hsk (by omega) (fun h2 hm2 => ?_)
  have hl2 := tlS_len n sk 4 ((x))
  have hr2 := rns_len (tlS n sk 4 ((x))).2 (rn s 81)
  refine a_iconst (pc := 38) (v := nI 1) dX12_tellsAs_38 (by decide) ?_
  refine a_isub (pc := 39) dX12_tellsAs_39 ?_
  exact a_iret (pc := 40) dX12_tellsAs_40 rfl (zf hz) (k9 _ (by rw [show rns s (tlS n sk 7 x).2 = (rns (rn s 81) (tlS n sk 4 ((x))).2) from (by first | rfl | exact rns_app _ _ _)]; exact hm2))
theorem m_tellsAs {G : Cx} {d : Nat} {h h0 : List va_E} {b : MB} {p : MP} {t : MT} {o : MO} {s : Rn} {Q : Option Value → List va_E → Prop} (hd : 12 ≤ d) (hz : gz G = false) (hm : MS G h0 h (uRan (uTrace b s.1) s.2, p, t, o)) {n sk : Nat} (ho : o.2.2.2.2.2.2.1 = sk ∧ o.2.2.2.2.2.2.2.1 = n) (hsk : sk < 8) {k : Nat} {x : Int32} (hk : k < 8) (hr : s.2 < 930) (k9 : ∀ h1, MS G h0 h1 (uRan (uTrace b (rns s (tlS n sk k x).2).1) (rns s (tlS n sk k x).2).2, p, t, o) → Q (some (.int (tlS n sk k x).1)) h1) : AM G yX12_tellsAs cX12_tellsAs 4 (some .int) d 0 0 [.ref (gB G + 80), .int (nI k), .int x] h Q := by
  rcases k8 hk with rfl | rfl | rfl | rfl | rfl | rfl | rfl | rfl
  · exact m_tellsAs_0 (by omega) hz hm ho hsk (by omega) k9
  · exact m_tellsAs_1 (by omega) hz hm ho hsk (by omega) k9
  · exact m_tellsAs_2 (by omega) hz hm ho hsk (by omega) k9
  · exact m_tellsAs_3 (by omega) hz hm ho hsk (by omega) k9
  · exact m_tellsAs_4 (by omega) hz hm ho hsk (by omega) k9
  · exact m_tellsAs_5 (by omega) hz hm ho hsk (by omega) k9
  · exact m_tellsAs_6 (by omega) hz hm ho hsk (by omega) k9
  · exact m_tellsAs_7 (by omega) hz hm ho hsk (by omega) k9
