/-! ROUND: what both answer -/
theorem wfoldF_pre {g : Nat → Nat → Wk → Wk} {r e : Nat} {s : Wk} (hg : ∀ w o s i, i < e → (g w o s).1 i = s.1 i) (k i : Nat) (hi : i < e) : (wfold g r s k).1 i = s.1 i := wfold_pre hg k i hi
theorem goF_pre {F : Lf} : ∀ j r x e (s : Wk) i, i < e → (goF F j r x e s).1 i = s.1 i
  | 0, _, _, _, s, i, _ => by
    rw [goF, wgh]
    split <;> rfl
  | j + 1, r, x, e, s, i, hi => wfold_pre (g := fun w o s => goF F j o (stepC F x o) (e + 1) (va_up s.1 e w, s.2.1, s.2.2)) (fun w o s i hi => (goF_pre j o (stepC F x o) (e + 1) (va_up s.1 e w, s.2.1, s.2.2) i (by omega)).trans (up_ne (by omega))) 5 i hi
def RW3 (m : Nat) (s t : Wk) : Prop := (s.2.2 = t.2.2 ∧ s.2.2 ≤ 36 ∧ ∀ i, i < m → s.2.1 i = t.2.1 i) ∨ (s.2.2 = 37 ∧ t.2.2 = 1000000)
theorem goN_F3 {F : Lf} {m : Nat} (hm : m ≤ 4) : ∀ j r x e (s t : Wk), e + j = m → (∀ i, i < e → s.1 i = t.1 i) → RW3 m s t → RW3 m (goF F j r x e s) (goN F m j r x e t) ∧ (goF F j r x e s).2.2 ≤ 36
  | 0, _, x, e, s, t, he, h1, h2 => by
    have h36 := ctn_le (cK x) 36
    rw [goF, goN, wgh, wghN]
    have fin : RW3 m (s.1, cp4 s.1 s.2.1, ctn (cK x) 36) (t.1, cpn m t.1 t.2.1, ctn (cK x) 36) := Or.inl ⟨rfl, h36, fun i hi => by
      show cp4 s.1 s.2.1 i = cpn m t.1 t.2.1 i
      rw [cp4, cpn, if_pos (by omega), if_pos hi]; exact h1 i (by omega)⟩
    rcases h2 with ⟨e1, e2, e3⟩ | ⟨e1, e2⟩
    · by_cases q : ctn (cK x) 36 < s.2.2
      · rw [if_pos q, if_pos (by omega)]; exact ⟨fin, h36⟩
      · rw [if_neg q, if_neg (by omega)]; exact ⟨Or.inl ⟨e1, e2, e3⟩, e2⟩
    · rw [if_pos (by omega), if_pos (by omega)]; exact ⟨fin, h36⟩
  | j + 1, r, x, e, s, t, he, h1, h2 => by
    have pF : ∀ k i, i < e → (wfold (fun w o s => goF F j o (stepC F x o) (e + 1) (va_up s.1 e w, s.2.1, s.2.2)) r s k).1 i = s.1 i := fun k i hi => wfold_pre (e := e) (fun w o s i hi => (goF_pre j o (stepC F x o) (e + 1) (va_up s.1 e w, s.2.1, s.2.2) i (by omega)).trans (up_ne (by omega))) k i hi
    have pN : ∀ k i, i < e → (wfold (fun w o s => goN F m j o (stepC F x o) (e + 1) (va_up s.1 e w, s.2.1, s.2.2)) r t k).1 i = t.1 i := fun k i hi => wfold_pre (e := e) (fun w o s i hi => (goN_pre j o (stepC F x o) (e + 1) (va_up s.1 e w, s.2.1, s.2.2) i (by omega)).trans (up_ne (by omega))) k i hi
    have H : ∀ k, RW3 m (wfold (fun w o s => goF F j o (stepC F x o) (e + 1) (va_up s.1 e w, s.2.1, s.2.2)) r s k) (wfold (fun w o s => goN F m j o (stepC F x o) (e + 1) (va_up s.1 e w, s.2.1, s.2.2)) r t k) ∧ (k = 5 → (wfold (fun w o s => goF F j o (stepC F x o) (e + 1) (va_up s.1 e w, s.2.1, s.2.2)) r s k).2.2 ≤ 36) := by
      intro k
      induction k with
      | zero => exact ⟨h2, fun q => absurd q (by decide)⟩
      | succ k ih =>
        have p1 := pF k
        have p2 := pN k
        rw [wfold, wfold]
        cases hb : bes5 r k with
        | none =>
          refine ⟨ih.1, fun q => ?_⟩
          obtain rfl : k = 4 := by omega
          cases hb
        | some o =>
          have := goN_F3 (F := F) hm j o (stepC F x o) (e + 1) (va_up (wfold (fun w o s => goF F j o (stepC F x o) (e + 1) (va_up s.1 e w, s.2.1, s.2.2)) r s k).1 e k, (wfold (fun w o s => goF F j o (stepC F x o) (e + 1) (va_up s.1 e w, s.2.1, s.2.2)) r s k).2.1, (wfold (fun w o s => goF F j o (stepC F x o) (e + 1) (va_up s.1 e w, s.2.1, s.2.2)) r s k).2.2) (va_up (wfold (fun w o s => goN F m j o (stepC F x o) (e + 1) (va_up s.1 e w, s.2.1, s.2.2)) r t k).1 e k, (wfold (fun w o s => goN F m j o (stepC F x o) (e + 1) (va_up s.1 e w, s.2.1, s.2.2)) r t k).2.1, (wfold (fun w o s => goN F m j o (stepC F x o) (e + 1) (va_up s.1 e w, s.2.1, s.2.2)) r t k).2.2) (by omega) (fun i hi => by
            show va_up _ e k i = va_up _ e k i
            by_cases q : i = e
            · rw [q, up_eq, up_eq]
            · rw [up_ne q, up_ne q, p1 i (by omega), p2 i (by omega)]; exact h1 i (by omega)) ih.1
          exact ⟨this.1, fun _ => this.2⟩
    exact ⟨(H 5).1, (H 5).2 rfl⟩
/-- the search's end, from nothing -/
def rdS (F : Lf) (m r : Nat) (v : Cv) : Wk := goF F m r v 0 (fun _ => 0, fun _ => 0, 37)
theorem rdS_le {F : Lf} {m r : Nat} {v : Cv} (hm : m ≤ 4) : (rdS F m r v).2.2 ≤ 36 := (goN_F3 (F := F) (m := m) hm m r v 0 (fun _ => 0, fun _ => 0, 37) (fun _ => 0, fun _ => 0, 1000000) (by omega) (fun i hi => absurd hi (Nat.not_lt_zero i)) (Or.inr ⟨rfl, rfl⟩)).2
theorem rdS_N {F : Lf} {m r : Nat} {v : Cv} (hm : m ≤ 4) (A B : Nat → Nat) : (goN F m m r v 0 (A, B, 1000000)).2.2 = (rdS F m r v).2.2 ∧ ∀ i, i < m → (goN F m m r v 0 (A, B, 1000000)).2.1 i = (rdS F m r v).2.1 i := by
  obtain ⟨h1, h2⟩ := goN_F3 (F := F) hm m r v 0 (fun _ => 0, fun _ => 0, 37) (A, B, 1000000) (by omega) (fun i hi => absurd hi (Nat.not_lt_zero i)) (Or.inr ⟨rfl, rfl⟩)
  rcases h1 with ⟨e1, e2, e3⟩ | ⟨e1, e2⟩
  · exact ⟨e1.symm, fun i hi => (e3 i hi).symm⟩
  · omega
theorem rdS_F {F : Lf} {m r : Nat} {v : Cv} (hm : m ≤ 4) (A B : Nat → Nat) : (goF F m r v 0 (A, B, 37)).2.2 = (rdS F m r v).2.2 ∧ ∀ i, i < m → (goF F m r v 0 (A, B, 37)).2.1 i = (rdS F m r v).2.1 i := by
  obtain ⟨h1, h2⟩ := goN_F3 (F := F) hm m r v 0 (A, B, 37) (fun _ => 0, fun _ => 0, 1000000) (by omega) (fun i hi => absurd hi (Nat.not_lt_zero i)) (Or.inr ⟨rfl, rfl⟩)
  obtain ⟨k1, k2⟩ := rdS_N (F := F) (m := m) (r := r) (v := v) hm (fun _ => 0) (fun _ => 0)
  rcases h1 with ⟨e1, e2, e3⟩ | ⟨e1, e2⟩
  · exact ⟨e1.trans k1, fun i hi => (e3 i hi).trans (k2 i hi)⟩
  · omega
def spRound (F : Lf) (v : Cv) (r n k : Int32) : Int32 := if inR 0 (nI 35) r = true then (if inR 0 (nI 4) n = true then (if inR (-1) (n - nI 1) k = true then (if k < 0 then nI (rdS F (iN n) (iN r) v).2.2 else nI ((rdS F (iN n) (iN r) v).2.1 (iN k))) else -1) else -1) else -1
theorem inR_k {n : Nat} {k : Int32} (hn : n ≤ 4) (h : inR (-1) (nI n - nI 1) k = true) (hk : ¬ k < 0) : ∃ m, m < n ∧ k = nI m := by
  obtain ⟨m, hm, rfl⟩ := nn_nI hk
  refine ⟨m, ?_, rfl⟩
  have h2 : nI m ≤ nI n - nI 1 := by simpa using (by simpa [inR] using h : _ ∧ _).2
  have h3 := Int32.le_iff_toInt_le.mp h2
  rw [nI_toInt hm, pk_sub_toInt (by omega) (by decide)] at h3
  omega
set_option maxRecDepth 100000 in
set_option maxHeartbeats 4000000 in
theorem m_round {G : Cx} {d : Nat} {h h0 : List va_E} {b : MB} {p : MP} {t : MT} {o : MO} {Q : Option Value → List va_E → Prop} (hd : 82 ≤ d) (hz : gz G = false) (hm : MS G h0 h (b, p, t, o)) {v : Cv} {F : Lf} (hb : BV (b, p, t, o) v) (okv : okC v) (hL : LM b F) {r n k : Int32} (hk : ∀ y h1 p1 t1 o1, y = spRound F v r n k → MS G h0 h1 (b, p1, t1, o1) → o1.2.1 = o.2.1 → Q (some (.int y)) h1) : AM G yX12_round cX12_round 4 (some .int) d 0 0 [.ref (gB G + 80), .int (r), .int (n), .int (k)] h Q := by
  obtain ⟨d, rfl, he⟩ := dpos hd
  refine AM.of [some (.ref (gB G + 80)), some (.int (r)), some (.int (n)), some (.int (k))] pnX12 (Nat.le_of_ble_eq_true rfl) (by simp [lsub, lvI, Value.category]) ?_
  refine a_iloadn_1 (pc := 0) dX12_round_0 ?_
  refine a_i2l (pc := 1) dX12_round_1 ?_
  refine cs_X12_106 (pc := 2) rfl dX12_round_2 (Nat.le_of_ble_eq_true rfl) ?_
  refine m_isRoom (by omega) hz ?_
  refine a_topi (bI (inR 0 (nI 35) r)) (congrArg bI (inL_R 0 35 (by decide) (by decide) r)) ?_
  refine b_if_eq (pc := 5) (tgt := 35) dX12_round_5 (by decide) (fun c_5 => ?_) (fun c_5 => ?_)
  · refine a_iconst (pc := 35) (v := (-1)) dX12_round_35 (by decide) ?_
    exact a_iret (pc := 36) dX12_round_36 rfl (zf hz) (hk _ _ _ _ _ (by simp [spRound, c_5]) hm rfl)
  · obtain ⟨n_r, h_r, rfl⟩ := inR_of (by decide) c_5
    have i_r : iN (nI n_r) = n_r := iN_nI (by omega)
    refine a_iloadn_2 (pc := 8) dX12_round_8 ?_
    refine a_i2l (pc := 9) dX12_round_9 ?_
    refine a_lconst (pc := 10) (v := 0) dX12_round_10 (by decide) ?_
    refine a_ldc2 (pc := 11) dX12_round_11 w_1152 ?_
    refine cs_X12_96 (pc := 14) rfl dX12_round_14 (Nat.le_of_ble_eq_true rfl) ?_
    refine m_within (by omega) hz ?_
    refine a_topi (bI (inR 0 (nI 4) n)) (congrArg bI (inL_R 0 4 (by decide) (by decide) n)) ?_
    refine b_if_eq (pc := 17) (tgt := 35) dX12_round_17 (by decide) (fun c_17 => ?_) (fun c_17 => ?_)
    · refine a_iconst (pc := 35) (v := (-1)) dX12_round_35 (by decide) ?_
      exact a_iret (pc := 36) dX12_round_36 rfl (zf hz) (hk _ _ _ _ _ (by simp [spRound, c_5, i_r, c_17]) hm rfl)
    · obtain ⟨n_n, h_n, rfl⟩ := inR_of (by decide) c_17
      have i_n : iN (nI n_n) = n_n := iN_nI (by omega)
      refine a_iloadn_3 (pc := 20) dX12_round_20 ?_
      refine a_i2l (pc := 21) dX12_round_21 ?_
      refine a_ldc2 (pc := 22) dX12_round_22 w_1333 ?_
      refine a_iloadn_2 (pc := 25) dX12_round_25 ?_
      refine a_iconst (pc := 26) (v := nI 1) dX12_round_26 (by decide) ?_
      refine a_isub (pc := 27) dX12_round_27 ?_
      refine a_i2l (pc := 28) dX12_round_28 ?_
      refine cs_X12_96 (pc := 29) rfl dX12_round_29 (Nat.le_of_ble_eq_true rfl) ?_
      refine m_within (by omega) hz ?_
      refine a_topi (bI (inR (-1) (nI n_n - nI 1) k)) (by rw [show (-1 : Int64) = (-1 : Int32).toInt64 from by decide]; exact congrArg bI (inL_i _ _ _)) ?_
      refine b_if_ne (pc := 32) (tgt := 37) dX12_round_32 (by decide) (fun c_32 => ?_) (fun c_32 => ?_)
      · refine a_aloadn_0 (pc := 37) dX12_round_37 ?_
        refine a_ldcw (pc := 38) dX12_round_38 w_1305 ?_
        refine a_topi (nI 1000000) (by decide) ?_
        refine mp_272 (x := 1000000) hm rfl dX12_round_41 (fun h1 hm1 => ?_)
        refine a_aloadn_0 (pc := 44) dX12_round_44 ?_
        refine a_iloadn_1 (pc := 45) dX12_round_45 ?_
        refine a_iconst (pc := 46) (v := nI 0) dX12_round_46 (by decide) ?_
        refine a_iloadn_2 (pc := 47) dX12_round_47 ?_
        refine cv_X12_275 (pc := 48) rfl dX12_round_48 hm1.2.2.1 (Nat.le_of_ble_eq_true rfl) ?_
        refine m_triesRound (C := fun _ => v) (P := fun _ => n_r) (m := n_n) hz hb okv hL (by omega) (by omega) n_n (by omega) hm1 (Nat.zero_add _) ⟨rfl, rfl, fun i hi => absurd hi (Nat.not_lt_zero i)⟩ (by show 1000000 ≤ 1000000; omega) (fun h7 p7 t7 o7 e7 hm7 c7 => ?_)
        obtain ⟨y1, y2⟩ := rdS_N (F := F) (m := n_n) (r := n_r) (v := v) (by omega) o.2.2.1 o.2.2.2.1
        have e7 : sOf o7 = goN F n_n n_n n_r v 0 (o.2.2.1, o.2.2.2.1, 1000000) := e7
        rw [← e7] at y1 y2
        have y1 : o7.2.2.2.2.1 = _ := y1
        have y2 : ∀ i, i < n_n → o7.2.2.2.1 i = _ := y2
        have r36 := rdS_le (F := F) (m := n_n) (r := n_r) (v := v) (by omega)
        refine a_iloadn_3 (pc := 51) dX12_round_51 ?_
        refine a_if_ge (pc := 52) (tgt := 62) dX12_round_52 (by decide) (fun c_52 => ?_) (fun c_52 => ?_)
        · have k0 : ¬ k < 0 := fun q => absurd (Int32.lt_of_lt_of_le q c_52) Int32.lt_irrefl
          obtain ⟨m, hm3, rfl⟩ := inR_k (by omega) c_32 k0
          have m4 : iN (nI m) = m := iN_nI (by omega)
          refine a_aloadn_0 (pc := 62) dX12_round_62 ?_
          refine mg_50 hm7 rfl dX12_round_63 ?_
          refine a_iloadn_3 (pc := 66) dX12_round_66 ?_
          refine ml_bestWalk (x := (rdS F n_n n_r v).2.1 m) hm7 dX12_round_67 (by omega) (y2 m hm3) ?_
          exact a_iret (pc := 68) dX12_round_68 rfl (zf hz) (hk _ _ _ _ _ (by simp [spRound, c_5, i_r, c_17, i_n, c_32, c_52, k0, m4]) hm7 c7)
        · have k0 : k < 0 := Int32.not_le.mp c_52
          refine a_aloadn_0 (pc := 55) dX12_round_55 ?_
          refine mg_272 (x := (rdS F n_n n_r v).2.2) hm7 rfl dX12_round_56 y1 ?_
          refine a_goto (pc := 59) (tgt := 68) dX12_round_59 (by decide) ?_
          exact a_iret (pc := 68) dX12_round_68 rfl (zf hz) (hk _ _ _ _ _ (by simp [spRound, c_5, i_r, c_17, i_n, c_32, c_52, k0]) hm7 c7)
      · refine a_iconst (pc := 35) (v := (-1)) dX12_round_35 (by decide) ?_
        exact a_iret (pc := 36) dX12_round_36 rfl (zf hz) (hk _ _ _ _ _ (by simp [spRound, c_5, i_r, c_17, i_n, c_32]) hm rfl)
