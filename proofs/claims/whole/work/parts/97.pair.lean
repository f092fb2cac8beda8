/-! BOTH SIDES: the same call of the class and of the reference -/
def LI (G : Cx) (h : List va_E) (b : MB) (v : Cv) (F : Lf) (c : Nat) (p : MP) (t : MT) (o : MO) : Prop := COb G h h b v F c ∧ MS G h h (b, p, t, o) ∧ o.2.1 = fun _ => false
theorem MS_in {G : Cx} {h0 h h1 : List va_E} {b b' : MB} {v : Cv} {F : Lf} {c : Nat} {p : MP} {t : MT} {o : MO} (hC : COb G h h1 b' v F c) (hM : MS G h0 h (b, p, t, o)) : MS G h1 h1 (b, p, t, o) :=
  ⟨rfl, fun _ _ => rfl, (hC.1.2 80 (by omega)).trans hM.2.2.1, fun j hj => (hC.1.2 _ (by omega)).trans (hM.2.2.2 j hj)⟩
theorem LI_mk {G : Cx} {h0 h1 h2 : List va_E} {b : MB} {v : Cv} {F : Lf} {c : Nat} {p : MP} {t : MT} {o : MO} (hC : COb G h0 h1 b v F c) (hM : MS G h1 h2 (b, p, t, o)) (ho : o.2.1 = fun _ => false) : LI G h2 b v F c p t o := by
  have e := hM.2.1
  obtain ⟨_, P, q0, q1, q2, q3, q4, q5, q6, q7, q8, q9, q10, q11⟩ := hC
  exact ⟨⟨⟨rfl, fun _ _ => rfl⟩, P, q0.mv (e 0 (by omega)), q1.mv (fun k a1 a2 => e k (by omega)), q2.mv (fun k a1 a2 => e k (by omega)), q3.mv (fun k a1 a2 => e k (by omega)), q4.mv (fun k a1 a2 => e k (by omega)), q5.mv (fun k a1 a2 => e k (by omega)), q6.mv (fun k a1 a2 => e k (by omega)), q7.mv (fun k a1 a2 => e k (by omega)), q8.mv (fun k a1 a2 => e k (by omega)), q9.mv (fun k a1 a2 => e k (by omega)), q10.mv (fun k a1 a2 => e k (by omega)), q11.mv (fun k a1 a2 => e k (by omega))⟩, ⟨rfl, fun _ _ => rfl, hM.2.2⟩, ho⟩
theorem fs_in {G : Cx} {h0 h h1 : List va_E} {b b' : MB} {v : Cv} {F : Lf} {c : Nat} {p : MP} {t : MT} {o : MO} (hC : COb G h h1 b' v F c) (hM : MS G h0 h (b, p, t, o)) : ∃ fs, h1[80]? = some (.inr (12, fs)) := ⟨_, (MS_in hC hM).2.2.1⟩
theorem inR_in {hi n : Nat} (hh : hi < 2147483648) (h : n ≤ hi) : inR 0 (nI hi) (nI n) = true := by rw [inR_nI hh (by omega)]; exact decide_eq_true h
theorem inR_in1 {hi n : Nat} (hh : hi < 2147483648) (h1 : 1 ≤ n) (h : n ≤ hi) : inR (nI 1) (nI hi) (nI n) = true := by
  rw [inR_N (by decide) hh (by omega)]
  unfold inN
  rw [decide_eq_true h1, decide_eq_true h]; rfl
theorem lg_53 {b : MB} {q : Nat} (hq : q < 6) (h : gShelf b q = nI 53) : ¬ lgR b (nI q) < 0 := by
  rw [lg_i hq, if_neg (by rw [h]; decide), if_pos h]
  decide
theorem rf_0 {b : MB} {q n s : Nat} (hq : q < 6) (hn : n < gMany b q) (hs : s < 5) (h : gShelf b q = nI (50 + s)) (hS : ShI b) : refS b (nI q) (nI n) = 0 := by
  have m60 := (hS.2 q hq).2
  rw [rf_i hq, if_neg (by rw [h]; exact nI_nn (by omega)), if_neg (fun z => by rw [h] at z; have := (nI_ltI (by omega) (by decide)).mp z; omega), if_pos ⟨Int32.not_lt.mp (nI_nn (by omega)), (nI_ltI (by omega) (by omega)).mpr hn⟩]
theorem sh_0 {b : MB} {q i1 q2 j1 n1 : Nat} (hq : q < 6) (hq2 : q2 < 6) (h1 : i1 + n1 ≤ gMany b q) (h2 : j1 + n1 ≤ gMany b q2) (h : ¬ gShelf b q < nI 50 ∧ gShelf b q = gShelf b q2) (hS : ShI b) : shR b (nI q) (nI i1) (nI q2) (nI j1) (nI n1) = 0 := by
  have m60 := (hS.2 q hq).2
  have m61 := (hS.2 q2 hq2).2
  have g0 : ¬ gShelf b q < 0 := fun z => h.1 (Int32.lt_trans z (by decide))
  have g1 : ¬ gShelf b q2 < 0 := by rw [← h.2]; exact g0
  have sb : ∀ m i n : Nat, m ≤ 60 → i + n ≤ m → ¬ nI m - nI n < nI i := fun m i n a1 a2 => by
    rw [pk_sub (show n ≤ m by omega)]
    intro z
    have := (nI_ltI (by omega) (by omega)).mp z
    omega
  rw [sh_i hq hq2, if_neg (fun z => z.elim g0 g1), if_neg (fun z => z.elim h.1 (fun z => z h.2)), if_neg (fun z => ?_)]
  rcases z with z | z | z | z | z
  · exact nI_nn (by omega) z
  · exact nI_nn (by omega) z
  · exact nI_nn (by omega) z
  · exact sb _ _ _ m60 h1 z
  · exact sb _ _ _ m61 h2 z
theorem lg_bad {b : MB} {dd : Int32} (h : inR 0 (nI 5) dd = false) : lgR b dd = -1 := lg_b h
set_option maxHeartbeats 4000000 in
theorem bo_press {G : Cx} {d c : Nat} {h : List va_E} {b : MB} {v : Cv} {F : Lf} {p : MP} {t : MT} {o : MO} {Qc : Option Value → List va_E → Prop} {r : Int32} (hd : 100 ≤ d) (hz : gz G = false) (hc9 : c + 1 < 100000) (I : LI G h b v F c p t o) (k1 : ∀ (y : Int32) h1, (∃ fs, h1[80]? = some (.inr (12, fs))) → (∀ Q2 : Option Value → List va_E → Prop, (∀ h2 b2 v2 F2 c2 p2 t2 o2, c2 ≤ c + 1 → LI G h2 b2 v2 F2 c2 p2 t2 o2 → Q2 (some (.int y)) h2) → AM G yX12_press cX12_press 2 (some .int) d 0 0 [.ref (gB G + 80), .int (r)] h1 Q2) → Qc (some (.int y)) h1) : AM G yX11_press cX11_press 2 (some .int) d 0 0 [.ref (gB G + 0), .int (r)] h Qc := by
  have hC := I.1
  have hm := I.2.1
  have ho := I.2.2
  have hbv : BV (b, p, t, o) v := hC.bv
  have hok := hC.ok
  have hL := hC.2.1.2.1
  have hH := hC.2.1.2.2.1
  have hSh := hC.2.1.2.2.2.1
  have hK8 := hC.2.1.2.2.2.2.1
  have hR9 := hC.2.1.2.2.2.2.2.1
  have hT := hC.2.1.2.2.2.2.2.2.1
  have h255 := hC.2.1.2.2.2.2.2.2.2
  have hBs := hSh.1
  refine p_press (by omega) hz hC (fun y h1 hy hC1 => ?_)
  subst hy
  refine k1 _ _ (fs_in hC1 hm) (fun Q2 k2 => ?_)
  refine m_press (by omega) hz (MS_in hC1 hm) hbv hok hL (fun y2 h2 p2 t2 hy2 hM => ?_)
  subst hy2
  exact k2 _ _ _ _ _ _ _ _ (by omega) (LI_mk hC1 hM ho)
set_option maxHeartbeats 4000000 in
theorem bo_later {G : Cx} {d c : Nat} {h : List va_E} {b : MB} {v : Cv} {F : Lf} {p : MP} {t : MT} {o : MO} {Qc : Option Value → List va_E → Prop} {n r w : Int32} (hd : 100 ≤ d) (hz : gz G = false) (hc9 : c + 1 < 100000) (I : LI G h b v F c p t o) (k1 : ∀ (y : Int32) h1, (∃ fs, h1[80]? = some (.inr (12, fs))) → (∀ Q2 : Option Value → List va_E → Prop, (∀ h2 b2 v2 F2 c2 p2 t2 o2, c2 ≤ c + 1 → LI G h2 b2 v2 F2 c2 p2 t2 o2 → Q2 (some (.int y)) h2) → AM G yX12_later cX12_later 4 (some .int) d 0 0 [.ref (gB G + 80), .int (n), .int (r), .int (w)] h1 Q2) → Qc (some (.int y)) h1) : AM G yX11_later cX11_later 4 (some .int) d 0 0 [.ref (gB G + 0), .int (n), .int (r), .int (w)] h Qc := by
  have hC := I.1
  have hm := I.2.1
  have ho := I.2.2
  have hbv : BV (b, p, t, o) v := hC.bv
  have hok := hC.ok
  have hL := hC.2.1.2.1
  have hH := hC.2.1.2.2.1
  have hSh := hC.2.1.2.2.2.1
  have hK8 := hC.2.1.2.2.2.2.1
  have hR9 := hC.2.1.2.2.2.2.2.1
  have hT := hC.2.1.2.2.2.2.2.2.1
  have h255 := hC.2.1.2.2.2.2.2.2.2
  have hBs := hSh.1
  refine p_later (by omega) hz hC (fun y h1 hy hC1 => ?_)
  subst hy
  refine k1 _ _ (fs_in hC1 hm) (fun Q2 k2 => ?_)
  refine m_later (by omega) hz (MS_in hC1 hm) hbv hok hL (fun y2 h2 p2 t2 hy2 hM => ?_)
  subst hy2
  exact k2 _ _ _ _ _ _ _ _ (by omega) (LI_mk hC1 hM ho)
set_option maxHeartbeats 4000000 in
theorem bo_dark {G : Cx} {d c : Nat} {h : List va_E} {b : MB} {v : Cv} {F : Lf} {p : MP} {t : MT} {o : MO} {Qc : Option Value → List va_E → Prop} {n w : Int32} (hd : 100 ≤ d) (hz : gz G = false) (hc9 : c + 1 < 100000) (I : LI G h b v F c p t o) (k1 : ∀ (y : Int32) h1, (∃ fs, h1[80]? = some (.inr (12, fs))) → (∀ Q2 : Option Value → List va_E → Prop, (∀ h2 b2 v2 F2 c2 p2 t2 o2, c2 ≤ c + 1 → LI G h2 b2 v2 F2 c2 p2 t2 o2 → Q2 (some (.int y)) h2) → AM G yX12_dark cX12_dark 3 (some .int) d 0 0 [.ref (gB G + 80), .int (n), .int (w)] h1 Q2) → Qc (some (.int y)) h1) : AM G yX11_dark cX11_dark 4 (some .int) d 0 0 [.ref (gB G + 0), .int (n), .int (w)] h Qc := by
  have hC := I.1
  have hm := I.2.1
  have ho := I.2.2
  have hbv : BV (b, p, t, o) v := hC.bv
  have hok := hC.ok
  have hL := hC.2.1.2.1
  have hH := hC.2.1.2.2.1
  have hSh := hC.2.1.2.2.2.1
  have hK8 := hC.2.1.2.2.2.2.1
  have hR9 := hC.2.1.2.2.2.2.2.1
  have hT := hC.2.1.2.2.2.2.2.2.1
  have h255 := hC.2.1.2.2.2.2.2.2.2
  have hBs := hSh.1
  refine p_dark (by omega) hz hC (fun y h1 hy hC1 => ?_)
  subst hy
  refine k1 _ _ (fs_in hC1 hm) (fun Q2 k2 => ?_)
  refine m_dark (by omega) hz (MS_in hC1 hm) hbv hok hL (fun y2 h2 p2 t2 hy2 hM => ?_)
  subst hy2
  exact k2 _ _ _ _ _ _ _ _ (by omega) (LI_mk hC1 hM ho)
set_option maxHeartbeats 4000000 in
theorem bo_map {G : Cx} {d c : Nat} {h : List va_E} {b : MB} {v : Cv} {F : Lf} {p : MP} {t : MT} {o : MO} {Qc : Option Value → List va_E → Prop} {n : Int32} (hd : 100 ≤ d) (hz : gz G = false) (hc9 : c + 1 < 100000) (I : LI G h b v F c p t o) (k1 : ∀ (y : Int64) h1, (∃ fs, h1[80]? = some (.inr (12, fs))) → (∀ Q2 : Option Value → List va_E → Prop, (∀ h2 b2 v2 F2 c2 p2 t2 o2, c2 ≤ c + 1 → LI G h2 b2 v2 F2 c2 p2 t2 o2 → Q2 (some (.long y)) h2) → AM G yX12_map cX12_map 2 (some .long) d 0 0 [.ref (gB G + 80), .int (n)] h1 Q2) → Qc (some (.long y)) h1) : AM G yX11_map cX11_map 2 (some .long) d 0 0 [.ref (gB G + 0), .int (n)] h Qc := by
  have hC := I.1
  have hm := I.2.1
  have ho := I.2.2
  have hbv : BV (b, p, t, o) v := hC.bv
  have hok := hC.ok
  have hL := hC.2.1.2.1
  have hH := hC.2.1.2.2.1
  have hSh := hC.2.1.2.2.2.1
  have hK8 := hC.2.1.2.2.2.2.1
  have hR9 := hC.2.1.2.2.2.2.2.1
  have hT := hC.2.1.2.2.2.2.2.2.1
  have h255 := hC.2.1.2.2.2.2.2.2.2
  have hBs := hSh.1
  refine p_map (by omega) hz hC (fun y h1 hy hC1 => ?_)
  subst hy
  refine k1 _ _ (fs_in hC1 hm) (fun Q2 k2 => ?_)
  refine m_map (by omega) hz (MS_in hC1 hm) hbv hok hL (fun y2 h2 p2 t2 hy2 hM => ?_)
  subst hy2
  exact k2 _ _ _ _ _ _ _ _ (by omega) (LI_mk hC1 hM ho)
set_option maxHeartbeats 4000000 in
theorem bo_falls {G : Cx} {d c : Nat} {h : List va_E} {b : MB} {v : Cv} {F : Lf} {p : MP} {t : MT} {o : MO} {Qc : Option Value → List va_E → Prop} {r : Int32} (hd : 100 ≤ d) (hz : gz G = false) (hc9 : c + 1 < 100000) (I : LI G h b v F c p t o) (k1 : ∀ (y : Int32) h1, (∃ fs, h1[80]? = some (.inr (12, fs))) → (∀ Q2 : Option Value → List va_E → Prop, (∀ h2 b2 v2 F2 c2 p2 t2 o2, c2 ≤ c + 1 → LI G h2 b2 v2 F2 c2 p2 t2 o2 → Q2 (some (.int y)) h2) → AM G yX12_falls cX12_falls 3 (some .int) d 0 0 [.ref (gB G + 80), .int (r)] h1 Q2) → Qc (some (.int y)) h1) : AM G yX11_falls cX11_falls 2 (some .int) d 0 0 [.ref (gB G + 0), .int (r)] h Qc := by
  have hC := I.1
  have hm := I.2.1
  have ho := I.2.2
  have hbv : BV (b, p, t, o) v := hC.bv
  have hok := hC.ok
  have hL := hC.2.1.2.1
  have hH := hC.2.1.2.2.1
  have hSh := hC.2.1.2.2.2.1
  have hK8 := hC.2.1.2.2.2.2.1
  have hR9 := hC.2.1.2.2.2.2.2.1
  have hT := hC.2.1.2.2.2.2.2.2.1
  have h255 := hC.2.1.2.2.2.2.2.2.2
  have hBs := hSh.1
  refine p_falls (by omega) hz hC (fun y h1 hy hC1 => ?_)
  subst hy
  refine k1 _ _ (fs_in hC1 hm) (fun Q2 k2 => ?_)
  refine m_falls (by omega) hz (MS_in hC1 hm) hbv hok hL (fun y2 h2 p2 t2 hy2 hM => ?_)
  subst hy2
  exact k2 _ _ _ _ _ _ _ _ (by omega) (LI_mk hC1 hM ho)
set_option maxHeartbeats 4000000 in
theorem bo_still {G : Cx} {d c : Nat} {h : List va_E} {b : MB} {v : Cv} {F : Lf} {p : MP} {t : MT} {o : MO} {Qc : Option Value → List va_E → Prop} (hd : 100 ≤ d) (hz : gz G = false) (hc9 : c + 1 < 100000) (I : LI G h b v F c p t o) (k1 : ∀ (y : Int32) h1, (∃ fs, h1[80]? = some (.inr (12, fs))) → (∀ Q2 : Option Value → List va_E → Prop, (∀ h2 b2 v2 F2 c2 p2 t2 o2, c2 ≤ c + 1 → LI G h2 b2 v2 F2 c2 p2 t2 o2 → Q2 (some (.int y)) h2) → AM G yX12_still cX12_still 4 (some .int) d 0 0 [.ref (gB G + 80)] h1 Q2) → Qc (some (.int y)) h1) : AM G yX11_still cX11_still 1 (some .int) d 0 0 [.ref (gB G + 0)] h Qc := by
  have hC := I.1
  have hm := I.2.1
  have ho := I.2.2
  have hbv : BV (b, p, t, o) v := hC.bv
  have hok := hC.ok
  have hL := hC.2.1.2.1
  have hH := hC.2.1.2.2.1
  have hSh := hC.2.1.2.2.2.1
  have hK8 := hC.2.1.2.2.2.2.1
  have hR9 := hC.2.1.2.2.2.2.2.1
  have hT := hC.2.1.2.2.2.2.2.2.1
  have h255 := hC.2.1.2.2.2.2.2.2.2
  have hBs := hSh.1
  refine p_still (by omega) hz hC (fun y h1 hy hC1 => ?_)
  subst hy
  refine k1 _ _ (fs_in hC1 hm) (fun Q2 k2 => ?_)
  refine m_still (by omega) hz (MS_in hC1 hm) hbv hok hL (fun y2 h2 p2 t2 hy2 hM => ?_)
  subst hy2
  exact k2 _ _ _ _ _ _ _ _ (by omega) (LI_mk hC1 hM ho)
set_option maxHeartbeats 4000000 in
theorem bo_enough {G : Cx} {d c : Nat} {h : List va_E} {b : MB} {v : Cv} {F : Lf} {p : MP} {t : MT} {o : MO} {Qc : Option Value → List va_E → Prop} {r tt : Int32} (hd : 100 ≤ d) (hz : gz G = false) (hc9 : c + 1 < 100000) (I : LI G h b v F c p t o) (k1 : ∀ (y : Int32) h1, (∃ fs, h1[80]? = some (.inr (12, fs))) → (∀ Q2 : Option Value → List va_E → Prop, (∀ h2 b2 v2 F2 c2 p2 t2 o2, c2 ≤ c + 1 → LI G h2 b2 v2 F2 c2 p2 t2 o2 → Q2 (some (.int y)) h2) → AM G yX12_enough cX12_enough 4 (some .int) d 0 0 [.ref (gB G + 80), .int (r), .int (tt)] h1 Q2) → Qc (some (.int y)) h1) : AM G yX11_enough cX11_enough 3 (some .int) d 0 0 [.ref (gB G + 0), .int (r), .int (tt)] h Qc := by
  have hC := I.1
  have hm := I.2.1
  have ho := I.2.2
  have hbv : BV (b, p, t, o) v := hC.bv
  have hok := hC.ok
  have hL := hC.2.1.2.1
  have hH := hC.2.1.2.2.1
  have hSh := hC.2.1.2.2.2.1
  have hK8 := hC.2.1.2.2.2.2.1
  have hR9 := hC.2.1.2.2.2.2.2.1
  have hT := hC.2.1.2.2.2.2.2.2.1
  have h255 := hC.2.1.2.2.2.2.2.2.2
  have hBs := hSh.1
  refine p_enough (by omega) hz hC (fun y h1 hy hC1 => ?_)
  subst hy
  refine k1 _ _ (fs_in hC1 hm) (fun Q2 k2 => ?_)
  refine m_enough (by omega) hz (MS_in hC1 hm) hbv hok hL (fun y2 h2 p2 t2 hy2 hM => ?_)
  subst hy2
  exact k2 _ _ _ _ _ _ _ _ (by omega) (LI_mk hC1 hM ho)
set_option maxHeartbeats 4000000 in
theorem bo_stubs {G : Cx} {d c : Nat} {h : List va_E} {b : MB} {v : Cv} {F : Lf} {p : MP} {t : MT} {o : MO} {Qc : Option Value → List va_E → Prop} {k9 tt w : Int32} (hd : 100 ≤ d) (hz : gz G = false) (hc9 : c + 1 < 100000) (I : LI G h b v F c p t o) (k1 : ∀ (y : Int32) h1, (∃ fs, h1[80]? = some (.inr (12, fs))) → (∀ Q2 : Option Value → List va_E → Prop, (∀ h2 b2 v2 F2 c2 p2 t2 o2, c2 ≤ c + 1 → LI G h2 b2 v2 F2 c2 p2 t2 o2 → Q2 (some (.int y)) h2) → AM G yX12_stubs cX12_stubs 9 (some .int) d 0 0 [.ref (gB G + 80), .int (k9), .int (tt), .int (w)] h1 Q2) → Qc (some (.int y)) h1) : AM G yX11_stubs cX11_stubs 4 (some .int) d 0 0 [.ref (gB G + 0), .int (k9), .int (tt), .int (w)] h Qc := by
  have hC := I.1
  have hm := I.2.1
  have ho := I.2.2
  have hbv : BV (b, p, t, o) v := hC.bv
  have hok := hC.ok
  have hL := hC.2.1.2.1
  have hH := hC.2.1.2.2.1
  have hSh := hC.2.1.2.2.2.1
  have hK8 := hC.2.1.2.2.2.2.1
  have hR9 := hC.2.1.2.2.2.2.2.1
  have hT := hC.2.1.2.2.2.2.2.2.1
  have h255 := hC.2.1.2.2.2.2.2.2.2
  have hBs := hSh.1
  refine p_stubs (by omega) hz hC (fun y h1 hy hC1 => ?_)
  subst hy
  refine k1 _ _ (fs_in hC1 hm) (fun Q2 k2 => ?_)
  refine m_stubs (by omega) hz (MS_in hC1 hm) hbv hok hL (fun y2 h2 p2 t2 hy2 hM => ?_)
  subst hy2
  exact k2 _ _ _ _ _ _ _ _ (by omega) (LI_mk hC1 hM ho)
set_option maxHeartbeats 4000000 in
theorem bo_drawn {G : Cx} {d c : Nat} {h : List va_E} {b : MB} {v : Cv} {F : Lf} {p : MP} {t : MT} {o : MO} {Qc : Option Value → List va_E → Prop} {sd nmo r : Int32} (hd : 100 ≤ d) (hz : gz G = false) (hc9 : c + 1 < 100000) (I : LI G h b v F c p t o) (k1 : ∀ (y : Int32) h1, (∃ fs, h1[80]? = some (.inr (12, fs))) → (∀ Q2 : Option Value → List va_E → Prop, (∀ h2 b2 v2 F2 c2 p2 t2 o2, c2 ≤ c + 1 → LI G h2 b2 v2 F2 c2 p2 t2 o2 → Q2 (some (.int y)) h2) → AM G yX12_drawn cX12_drawn 9 (some .int) d 0 0 [.ref (gB G + 80), .int (sd), .int (nmo), .int (r)] h1 Q2) → Qc (some (.int y)) h1) : AM G yX11_drawn cX11_drawn 7 (some .int) d 0 0 [.ref (gB G + 0), .int (sd), .int (nmo), .int (r)] h Qc := by
  have hC := I.1
  have hm := I.2.1
  have ho := I.2.2
  have hbv : BV (b, p, t, o) v := hC.bv
  have hok := hC.ok
  have hL := hC.2.1.2.1
  have hH := hC.2.1.2.2.1
  have hSh := hC.2.1.2.2.2.1
  have hK8 := hC.2.1.2.2.2.2.1
  have hR9 := hC.2.1.2.2.2.2.2.1
  have hT := hC.2.1.2.2.2.2.2.2.1
  have h255 := hC.2.1.2.2.2.2.2.2.2
  have hBs := hSh.1
  refine p_drawn (by omega) hz hC (fun y h1 hy hC1 => ?_)
  subst hy
  refine k1 _ _ (fs_in hC1 hm) (fun Q2 k2 => ?_)
  refine m_drawn (by omega) hz (MS_in hC1 hm) hbv hok hL (fun y2 h2 p2 t2 hy2 hM => ?_)
  subst hy2
  exact k2 _ _ _ _ _ _ _ _ (by omega) (LI_mk hC1 hM ho)
set_option maxHeartbeats 4000000 in
theorem bo_round {G : Cx} {d c : Nat} {h : List va_E} {b : MB} {v : Cv} {F : Lf} {p : MP} {t : MT} {o : MO} {Qc : Option Value → List va_E → Prop} {r n k9 : Int32} (hd : 100 ≤ d) (hz : gz G = false) (hc9 : c + 1 < 100000) (I : LI G h b v F c p t o) (k1 : ∀ (y : Int32) h1, (∃ fs, h1[80]? = some (.inr (12, fs))) → (∀ Q2 : Option Value → List va_E → Prop, (∀ h2 b2 v2 F2 c2 p2 t2 o2, c2 ≤ c + 1 → LI G h2 b2 v2 F2 c2 p2 t2 o2 → Q2 (some (.int y)) h2) → AM G yX12_round cX12_round 4 (some .int) d 0 0 [.ref (gB G + 80), .int (r), .int (n), .int (k9)] h1 Q2) → Qc (some (.int y)) h1) : AM G yX11_round cX11_round 4 (some .int) d 0 0 [.ref (gB G + 0), .int (r), .int (n), .int (k9)] h Qc := by
  have hC := I.1
  have hm := I.2.1
  have ho := I.2.2
  have hbv : BV (b, p, t, o) v := hC.bv
  have hok := hC.ok
  have hL := hC.2.1.2.1
  have hH := hC.2.1.2.2.1
  have hSh := hC.2.1.2.2.2.1
  have hK8 := hC.2.1.2.2.2.2.1
  have hR9 := hC.2.1.2.2.2.2.2.1
  have hT := hC.2.1.2.2.2.2.2.2.1
  have h255 := hC.2.1.2.2.2.2.2.2.2
  have hBs := hSh.1
  refine p_round (by omega) hz hC (fun y h1 hy hC1 => ?_)
  subst hy
  refine k1 _ _ (fs_in hC1 hm) (fun Q2 k2 => ?_)
  refine m_round (by omega) hz (MS_in hC1 hm) hbv hok hL (fun y2 h2 p2 t2 o2 hy2 hM ho2 => ?_)
  subst hy2
  exact k2 _ _ _ _ _ _ _ _ (by omega) (LI_mk hC1 hM (ho2.trans ho))
set_option maxHeartbeats 4000000 in
theorem bo_byTurns {G : Cx} {d c : Nat} {h : List va_E} {b : MB} {v : Cv} {F : Lf} {p : MP} {t : MT} {o : MO} {Qc : Option Value → List va_E → Prop} {ynt w : Int32} (hd : 100 ≤ d) (hz : gz G = false) (hc9 : c + 1 < 100000) (I : LI G h b v F c p t o) (k1 : ∀ (y : Int32) h1, (∃ fs, h1[80]? = some (.inr (12, fs))) → (∀ Q2 : Option Value → List va_E → Prop, (∀ h2 b2 v2 F2 c2 p2 t2 o2, c2 ≤ c + 1 → LI G h2 b2 v2 F2 c2 p2 t2 o2 → Q2 (some (.int y)) h2) → AM G yX12_byTurns cX12_byTurns 9 (some .int) d 0 0 [.ref (gB G + 80), .int (ynt), .int (w)] h1 Q2) → Qc (some (.int y)) h1) : AM G yX11_byTurns cX11_byTurns 6 (some .int) d 0 0 [.ref (gB G + 0), .int (ynt), .int (w)] h Qc := by
  have hC := I.1
  have hm := I.2.1
  have ho := I.2.2
  have hbv : BV (b, p, t, o) v := hC.bv
  have hok := hC.ok
  have hL := hC.2.1.2.1
  have hH := hC.2.1.2.2.1
  have hSh := hC.2.1.2.2.2.1
  have hK8 := hC.2.1.2.2.2.2.1
  have hR9 := hC.2.1.2.2.2.2.2.1
  have hT := hC.2.1.2.2.2.2.2.2.1
  have h255 := hC.2.1.2.2.2.2.2.2.2
  have hBs := hSh.1
  refine p_byTurns (by omega) hz hC (fun y h1 hy hC1 => ?_)
  subst hy
  refine k1 _ _ (fs_in hC1 hm) (fun Q2 k2 => ?_)
  refine m_byTurns (by omega) hz (MS_in hC1 hm) hbv hok hL (fun y2 h2 p2 t2 o2 hy2 hM ho2 => ?_)
  subst hy2
  exact k2 _ _ _ _ _ _ _ _ (by omega) (LI_mk hC1 hM (ho2.trans ho))
set_option maxHeartbeats 4000000 in
theorem bo_wayIn {G : Cx} {d c : Nat} {h : List va_E} {b : MB} {v : Cv} {F : Lf} {p : MP} {t : MT} {o : MO} {Qc : Option Value → List va_E → Prop} {r w : Int32} (hd : 100 ≤ d) (hz : gz G = false) (hc9 : c + 1 < 100000) (I : LI G h b v F c p t o) (k1 : ∀ (y : Int32) h1, (∃ fs, h1[80]? = some (.inr (12, fs))) → (∀ Q2 : Option Value → List va_E → Prop, (∀ h2 b2 v2 F2 c2 p2 t2 o2, c2 ≤ c + 1 → LI G h2 b2 v2 F2 c2 p2 t2 o2 → Q2 (some (.int y)) h2) → AM G yX12_wayIn cX12_wayIn 4 (some .int) d 0 0 [.ref (gB G + 80), .int (r), .int (w)] h1 Q2) → Qc (some (.int y)) h1) : AM G yX11_wayIn cX11_wayIn 3 (some .int) d 0 0 [.ref (gB G + 0), .int (r), .int (w)] h Qc := by
  have hC := I.1
  have hm := I.2.1
  have ho := I.2.2
  have hbv : BV (b, p, t, o) v := hC.bv
  have hok := hC.ok
  have hL := hC.2.1.2.1
  have hH := hC.2.1.2.2.1
  have hSh := hC.2.1.2.2.2.1
  have hK8 := hC.2.1.2.2.2.2.1
  have hR9 := hC.2.1.2.2.2.2.2.1
  have hT := hC.2.1.2.2.2.2.2.2.1
  have h255 := hC.2.1.2.2.2.2.2.2.2
  have hBs := hSh.1
  refine p_wayIn (by omega) hz hC (fun y h1 hy hC1 => ?_)
  refine k1 _ _ (fs_in hC1 hm) (fun Q2 k2 => ?_)
  refine m_wayIn (by omega) hz (MS_in hC1 hm) hbv hok hL ho (fun y2 h2 p2 t2 o2 hy2 hM ho2 => ?_)
  have e := wayP_uniq hy hy2
  subst e
  exact k2 _ _ _ _ _ _ _ _ (by omega) (LI_mk hC1 hM (ho2.trans ho))
set_option maxHeartbeats 4000000 in
theorem bo_led {G : Cx} {d c : Nat} {h : List va_E} {b : MB} {v : Cv} {F : Lf} {p : MP} {t : MT} {o : MO} {Qc : Option Value → List va_E → Prop} {w : Int32} (hd : 100 ≤ d) (hz : gz G = false) (hc9 : c + 1 < 100000) (I : LI G h b v F c p t o) (k1 : ∀ (y : Int32) h1, (∃ fs, h1[80]? = some (.inr (12, fs))) → (∀ Q2 : Option Value → List va_E → Prop, (∀ h2 b2 v2 F2 c2 p2 t2 o2, c2 ≤ c + 1 → LI G h2 b2 v2 F2 c2 p2 t2 o2 → Q2 (some (.int y)) h2) → AM G yX12_led cX12_led 2 (some .int) d 0 0 [.ref (gB G + 80), .int (w)] h1 Q2) → Qc (some (.int y)) h1) : AM G yX11_led cX11_led 2 (some .int) d 0 0 [.ref (gB G + 0), .int (w)] h Qc := by
  have hC := I.1
  have hm := I.2.1
  have ho := I.2.2
  have hbv : BV (b, p, t, o) v := hC.bv
  have hok := hC.ok
  have hL := hC.2.1.2.1
  have hH := hC.2.1.2.2.1
  have hSh := hC.2.1.2.2.2.1
  have hK8 := hC.2.1.2.2.2.2.1
  have hR9 := hC.2.1.2.2.2.2.2.1
  have hT := hC.2.1.2.2.2.2.2.2.1
  have h255 := hC.2.1.2.2.2.2.2.2.2
  have hBs := hSh.1
  refine p_led (by omega) hz hC (fun y hy hC1 => ?_)
  subst hy
  refine k1 _ _ (fs_in hC1 hm) (fun Q2 k2 => ?_)
  refine m_led (by omega) hz (MS_in hC1 hm) (fun y2 hy2 => ?_)
  subst hy2
  have hM := MS_in hC1 hm
  exact k2 _ _ _ _ _ _ _ _ (by omega) (LI_mk hC1 hM ho)
set_option maxHeartbeats 4000000 in
theorem bo_count {G : Cx} {d c : Nat} {h : List va_E} {b : MB} {v : Cv} {F : Lf} {p : MP} {t : MT} {o : MO} {Qc : Option Value → List va_E → Prop} {x : Int32} (hd : 100 ≤ d) (hz : gz G = false) (hc9 : c + 1 < 100000) (I : LI G h b v F c p t o) (k1 : ∀ (y : Int32) h1, (∃ fs, h1[80]? = some (.inr (12, fs))) → (∀ Q2 : Option Value → List va_E → Prop, (∀ h2 b2 v2 F2 c2 p2 t2 o2, c2 ≤ c + 1 → LI G h2 b2 v2 F2 c2 p2 t2 o2 → Q2 (some (.int y)) h2) → AM G yX12_count cX12_count 2 (some .int) d 0 0 [.ref (gB G + 80), .int (x)] h1 Q2) → Qc (some (.int y)) h1) : AM G yX11_count cX11_count 2 (some .int) d 0 0 [.ref (gB G + 0), .int (x)] h Qc := by
  have hC := I.1
  have hm := I.2.1
  have ho := I.2.2
  have hbv : BV (b, p, t, o) v := hC.bv
  have hok := hC.ok
  have hL := hC.2.1.2.1
  have hH := hC.2.1.2.2.1
  have hSh := hC.2.1.2.2.2.1
  have hK8 := hC.2.1.2.2.2.2.1
  have hR9 := hC.2.1.2.2.2.2.2.1
  have hT := hC.2.1.2.2.2.2.2.2.1
  have h255 := hC.2.1.2.2.2.2.2.2.2
  have hBs := hSh.1
  refine p_count (by omega) hz hC (fun y hy hC1 => ?_)
  subst hy
  refine k1 _ _ (fs_in hC1 hm) (fun Q2 k2 => ?_)
  refine m_count (by omega) hz (MS_in hC1 hm) hbv hok (fun y2 h2 t2 hy2 hM => ?_)
  subst hy2
  exact k2 _ _ _ _ _ _ _ _ (by omega) (LI_mk hC1 hM ho)
set_option maxHeartbeats 4000000 in
theorem bo_hour {G : Cx} {d c : Nat} {h : List va_E} {b : MB} {v : Cv} {F : Lf} {p : MP} {t : MT} {o : MO} {Qc : Option Value → List va_E → Prop} (hd : 100 ≤ d) (hz : gz G = false) (hc9 : c + 1 < 100000) (I : LI G h b v F c p t o) (k1 : ∀ (y : Int32) h1, (∃ fs, h1[80]? = some (.inr (12, fs))) → (∀ Q2 : Option Value → List va_E → Prop, (∀ h2 b2 v2 F2 c2 p2 t2 o2, c2 ≤ c + 1 → LI G h2 b2 v2 F2 c2 p2 t2 o2 → Q2 (some (.int y)) h2) → AM G yX12_hour cX12_hour 2 (some .int) d 0 0 [.ref (gB G + 80)] h1 Q2) → Qc (some (.int y)) h1) : AM G yX11_hour cX11_hour 1 (some .int) d 0 0 [.ref (gB G + 0)] h Qc := by
  have hC := I.1
  have hm := I.2.1
  have ho := I.2.2
  have hbv : BV (b, p, t, o) v := hC.bv
  have hok := hC.ok
  have hL := hC.2.1.2.1
  have hH := hC.2.1.2.2.1
  have hSh := hC.2.1.2.2.2.1
  have hK8 := hC.2.1.2.2.2.2.1
  have hR9 := hC.2.1.2.2.2.2.2.1
  have hT := hC.2.1.2.2.2.2.2.2.1
  have h255 := hC.2.1.2.2.2.2.2.2.2
  have hBs := hSh.1
  refine p_hour (by omega) hz hC (fun h1 hF => ?_)
  have hC1 := hF (fH b F v) fH_ok.1 fH_ok.2.1 fH_ok.2.2.1 fH_ok.2.2.2
  refine k1 _ _ (fs_in hC1 hm) (fun Q2 k2 => ?_)
  refine m_hour (by omega) hz (MS_in hC1 hm) hbv hok hL (fun f f1 f2 f3 f4 h2 p2 t2 hM => ?_)
  have hC1 := hF f f1 f2 f3 f4
  exact k2 _ _ _ _ _ _ _ _ (by omega) (LI_mk hC1 hM ho)
set_option maxHeartbeats 4000000 in
theorem bo_image {G : Cx} {d c : Nat} {h : List va_E} {b : MB} {v : Cv} {F : Lf} {p : MP} {t : MT} {o : MO} {Qc : Option Value → List va_E → Prop} (hd : 100 ≤ d) (hz : gz G = false) (hc9 : c + 1 < 100000) (I : LI G h b v F c p t o) (k1 : ∀ (y : Int32) h1, (∃ fs, h1[80]? = some (.inr (12, fs))) → (∀ Q2 : Option Value → List va_E → Prop, (∀ h2 b2 v2 F2 c2 p2 t2 o2, c2 ≤ c + 1 → LI G h2 b2 v2 F2 c2 p2 t2 o2 → Q2 (some (.int y)) h2) → AM G yX12_image cX12_image 2 (some .int) d 0 0 [.ref (gB G + 80)] h1 Q2) → Qc (some (.int y)) h1) : AM G yX11_image cX11_image 1 (some .int) d 0 0 [.ref (gB G + 0)] h Qc := by
  have hC := I.1
  have hm := I.2.1
  have ho := I.2.2
  have hbv : BV (b, p, t, o) v := hC.bv
  have hok := hC.ok
  have hL := hC.2.1.2.1
  have hH := hC.2.1.2.2.1
  have hSh := hC.2.1.2.2.2.1
  have hK8 := hC.2.1.2.2.2.2.1
  have hR9 := hC.2.1.2.2.2.2.2.1
  have hT := hC.2.1.2.2.2.2.2.2.1
  have h255 := hC.2.1.2.2.2.2.2.2.2
  have hBs := hSh.1
  refine p_image (by omega) hz hC (fun h1 hF => ?_)
  have hC1 := hF (gMay b) (gLedNow b) (fun _ _ => rfl) (fun _ _ => rfl)
  refine k1 _ _ (fs_in hC1 hm) (fun Q2 k2 => ?_)
  refine m_image (by omega) hz (MS_in hC1 hm) (fun f g f1 f2 h2 hM => ?_)
  have hC1 := hF f g f1 f2
  exact k2 _ _ _ _ _ _ _ _ (by omega) (LI_mk hC1 hM ho)
set_option maxHeartbeats 4000000 in
theorem bo_blow {G : Cx} {d c : Nat} {h : List va_E} {b : MB} {v : Cv} {F : Lf} {p : MP} {t : MT} {o : MO} {Qc : Option Value → List va_E → Prop} {r : Int32} (hd : 100 ≤ d) (hz : gz G = false) (hc9 : c + 1 < 100000) (I : LI G h b v F c p t o) (k1 : ∀ (y : Int32) h1, (∃ fs, h1[80]? = some (.inr (12, fs))) → (∀ Q2 : Option Value → List va_E → Prop, (∀ h2 b2 v2 F2 c2 p2 t2 o2, c2 ≤ c + 1 → LI G h2 b2 v2 F2 c2 p2 t2 o2 → Q2 (some (.int y)) h2) → AM G yX12_blow cX12_blow 3 (some .int) d 0 0 [.ref (gB G + 80), .int (r)] h1 Q2) → Qc (some (.int y)) h1) : AM G yX11_blow cX11_blow 3 (some .int) d 0 0 [.ref (gB G + 0), .int (r)] h Qc := by
  have hC := I.1
  have hm := I.2.1
  have ho := I.2.2
  have hbv : BV (b, p, t, o) v := hC.bv
  have hok := hC.ok
  have hL := hC.2.1.2.1
  have hH := hC.2.1.2.2.1
  have hSh := hC.2.1.2.2.2.1
  have hK8 := hC.2.1.2.2.2.2.1
  have hR9 := hC.2.1.2.2.2.2.2.1
  have hT := hC.2.1.2.2.2.2.2.2.1
  have h255 := hC.2.1.2.2.2.2.2.2.2
  have hBs := hSh.1
  refine p_blow (by omega) hz hC (fun hb hC1 => ?_) (fun n hn hr h1 v1 hC1 => ?_)
  · refine k1 _ _ (fs_in hC1 hm) (fun Q2 k2 => ?_)
    refine m_blow (by omega) hz (MS_in hC1 hm) hbv hok (fun hb2 => ?_) (fun n2 hn2 hr2 h2 hM => ?_)
    · have hM := MS_in hC1 hm
      exact k2 _ _ _ _ _ _ _ _ (by omega) (LI_mk hC1 hM ho)
    · subst hr2
      exact absurd hb (by rw [inR_in (hi := 35) (n := n2) (by decide) (by omega)]; decide)
  · subst hr
    refine k1 _ _ (fs_in hC1 hm) (fun Q2 k2 => ?_)
    refine m_blow (by omega) hz (MS_in hC1 hm) hbv hok (fun hb2 => ?_) (fun n2 hn2 hr2 h2 hM => ?_)
    · exact absurd hb2 (by rw [inR_in (hi := 35) (n := n) (by decide) (by omega)]; decide)
    · have e_n : n = n2 := (nI_eq (by omega) (by omega)).mp hr2
      subst e_n
      exact k2 _ _ _ _ _ _ _ _ (by omega) (LI_mk hC1 hM ho)
set_option maxHeartbeats 4000000 in
theorem bo_song {G : Cx} {d c : Nat} {h : List va_E} {b : MB} {v : Cv} {F : Lf} {p : MP} {t : MT} {o : MO} {Qc : Option Value → List va_E → Prop} {r : Int32} (hd : 100 ≤ d) (hz : gz G = false) (hc9 : c + 1 < 100000) (I : LI G h b v F c p t o) (k1 : ∀ (y : Int32) h1, (∃ fs, h1[80]? = some (.inr (12, fs))) → (∀ Q2 : Option Value → List va_E → Prop, (∀ h2 b2 v2 F2 c2 p2 t2 o2, c2 ≤ c + 1 → LI G h2 b2 v2 F2 c2 p2 t2 o2 → Q2 (some (.int y)) h2) → AM G yX12_song cX12_song 2 (some .int) d 0 0 [.ref (gB G + 80), .int (r)] h1 Q2) → Qc (some (.int y)) h1) : AM G yX11_song cX11_song 2 (some .int) d 0 0 [.ref (gB G + 0), .int (r)] h Qc := by
  have hC := I.1
  have hm := I.2.1
  have ho := I.2.2
  have hbv : BV (b, p, t, o) v := hC.bv
  have hok := hC.ok
  have hL := hC.2.1.2.1
  have hH := hC.2.1.2.2.1
  have hSh := hC.2.1.2.2.2.1
  have hK8 := hC.2.1.2.2.2.2.1
  have hR9 := hC.2.1.2.2.2.2.2.1
  have hT := hC.2.1.2.2.2.2.2.2.1
  have h255 := hC.2.1.2.2.2.2.2.2.2
  have hBs := hSh.1
  refine p_song (by omega) hz hC (fun hb hC1 => ?_) (fun n hn hr hk hC1 => ?_) (fun n hn hr hk h1 v1 hC1 => ?_)
  · refine k1 _ _ (fs_in hC1 hm) (fun Q2 k2 => ?_)
    refine m_song (by omega) hz (MS_in hC1 hm) hbv hok (fun hb2 => ?_) (fun n2 hn2 hr2 hk2 => ?_) (fun n2 hn2 hr2 hk2 h2 hM => ?_)
    · have hM := MS_in hC1 hm
      exact k2 _ _ _ _ _ _ _ _ (by omega) (LI_mk hC1 hM ho)
    · subst hr2
      exact absurd hb (by rw [inR_in (hi := 35) (n := n2) (by decide) (by omega)]; decide)
    · subst hr2
      exact absurd hb (by rw [inR_in (hi := 35) (n := n2) (by decide) (by omega)]; decide)
  · subst hr
    refine k1 _ _ (fs_in hC1 hm) (fun Q2 k2 => ?_)
    refine m_song (by omega) hz (MS_in hC1 hm) hbv hok (fun hb2 => ?_) (fun n2 hn2 hr2 hk2 => ?_) (fun n2 hn2 hr2 hk2 h2 hM => ?_)
    · exact absurd hb2 (by rw [inR_in (hi := 35) (n := n) (by decide) (by omega)]; decide)
    · have e_n : n = n2 := (nI_eq (by omega) (by omega)).mp hr2
      subst e_n
      have hM := MS_in hC1 hm
      exact k2 _ _ _ _ _ _ _ _ (by omega) (LI_mk hC1 hM ho)
    · have e_n : n = n2 := (nI_eq (by omega) (by omega)).mp hr2
      subst e_n
      rw [hk] at hk2; cases hk2
  · subst hr
    refine k1 _ _ (fs_in hC1 hm) (fun Q2 k2 => ?_)
    refine m_song (by omega) hz (MS_in hC1 hm) hbv hok (fun hb2 => ?_) (fun n2 hn2 hr2 hk2 => ?_) (fun n2 hn2 hr2 hk2 h2 hM => ?_)
    · exact absurd hb2 (by rw [inR_in (hi := 35) (n := n) (by decide) (by omega)]; decide)
    · have e_n : n = n2 := (nI_eq (by omega) (by omega)).mp hr2
      subst e_n
      rw [hk] at hk2; cases hk2
    · have e_n : n = n2 := (nI_eq (by omega) (by omega)).mp hr2
      subst e_n
      exact k2 _ _ _ _ _ _ _ _ (by omega) (LI_mk hC1 hM ho)
set_option maxHeartbeats 4000000 in
theorem bo_stub {G : Cx} {d c : Nat} {h : List va_E} {b : MB} {v : Cv} {F : Lf} {p : MP} {t : MT} {o : MO} {Qc : Option Value → List va_E → Prop} {r w : Int32} (hd : 100 ≤ d) (hz : gz G = false) (hc9 : c + 1 < 100000) (I : LI G h b v F c p t o) (k1 : ∀ (y : Int32) h1, (∃ fs, h1[80]? = some (.inr (12, fs))) → (∀ Q2 : Option Value → List va_E → Prop, (∀ h2 b2 v2 F2 c2 p2 t2 o2, c2 ≤ c + 1 → LI G h2 b2 v2 F2 c2 p2 t2 o2 → Q2 (some (.int y)) h2) → AM G yX12_stub cX12_stub 3 (some .int) d 0 0 [.ref (gB G + 80), .int (r), .int (w)] h1 Q2) → Qc (some (.int y)) h1) : AM G yX11_stub cX11_stub 3 (some .int) d 0 0 [.ref (gB G + 0), .int (r), .int (w)] h Qc := by
  have hC := I.1
  have hm := I.2.1
  have ho := I.2.2
  have hbv : BV (b, p, t, o) v := hC.bv
  have hok := hC.ok
  have hL := hC.2.1.2.1
  have hH := hC.2.1.2.2.1
  have hSh := hC.2.1.2.2.2.1
  have hK8 := hC.2.1.2.2.2.2.1
  have hR9 := hC.2.1.2.2.2.2.2.1
  have hT := hC.2.1.2.2.2.2.2.2.1
  have h255 := hC.2.1.2.2.2.2.2.2.2
  have hBs := hSh.1
  refine p_stub (by omega) hz hC (fun hb hC1 => ?_) (fun n m hn hr hw hm1 hm2 hk hC1 => ?_) (fun n m hn hr hw hm1 hm2 hk h1 v1 hC1 => ?_)
  · refine k1 _ _ (fs_in hC1 hm) (fun Q2 k2 => ?_)
    refine m_stub (by omega) hz (MS_in hC1 hm) hbv hok (fun hb2 => ?_) (fun n2 m2 hn2 hr2 hw2 hm3 hm4 hk2 => ?_) (fun n2 m2 hn2 hr2 hw2 hm3 hm4 hk2 h2 hM => ?_)
    · have hM := MS_in hC1 hm
      exact k2 _ _ _ _ _ _ _ _ (by omega) (LI_mk hC1 hM ho)
    · subst hr2 hw2
      exact absurd hb (by rw [inR_in (hi := 35) (n := n2) (by decide) (by omega), inR_in1 (hi := 99) (n := m2) (by decide) (by omega) (by omega)]; decide)
    · subst hr2 hw2
      exact absurd hb (by rw [inR_in (hi := 35) (n := n2) (by decide) (by omega), inR_in1 (hi := 99) (n := m2) (by decide) (by omega) (by omega)]; decide)
  · subst hr hw
    refine k1 _ _ (fs_in hC1 hm) (fun Q2 k2 => ?_)
    refine m_stub (by omega) hz (MS_in hC1 hm) hbv hok (fun hb2 => ?_) (fun n2 m2 hn2 hr2 hw2 hm3 hm4 hk2 => ?_) (fun n2 m2 hn2 hr2 hw2 hm3 hm4 hk2 h2 hM => ?_)
    · exact absurd hb2 (by rw [inR_in (hi := 35) (n := n) (by decide) (by omega), inR_in1 (hi := 99) (n := m) (by decide) (by omega) (by omega)]; decide)
    · have e_n : n = n2 := (nI_eq (by omega) (by omega)).mp hr2
      subst e_n
      have e_m : m = m2 := (nI_eq (by omega) (by omega)).mp hw2
      subst e_m
      have hM := MS_in hC1 hm
      exact k2 _ _ _ _ _ _ _ _ (by omega) (LI_mk hC1 hM ho)
    · have e_n : n = n2 := (nI_eq (by omega) (by omega)).mp hr2
      subst e_n
      have e_m : m = m2 := (nI_eq (by omega) (by omega)).mp hw2
      subst e_m
      rw [hk] at hk2; cases hk2
  · subst hr hw
    refine k1 _ _ (fs_in hC1 hm) (fun Q2 k2 => ?_)
    refine m_stub (by omega) hz (MS_in hC1 hm) hbv hok (fun hb2 => ?_) (fun n2 m2 hn2 hr2 hw2 hm3 hm4 hk2 => ?_) (fun n2 m2 hn2 hr2 hw2 hm3 hm4 hk2 h2 hM => ?_)
    · exact absurd hb2 (by rw [inR_in (hi := 35) (n := n) (by decide) (by omega), inR_in1 (hi := 99) (n := m) (by decide) (by omega) (by omega)]; decide)
    · have e_n : n = n2 := (nI_eq (by omega) (by omega)).mp hr2
      subst e_n
      have e_m : m = m2 := (nI_eq (by omega) (by omega)).mp hw2
      subst e_m
      rw [hk] at hk2; cases hk2
    · have e_n : n = n2 := (nI_eq (by omega) (by omega)).mp hr2
      subst e_n
      have e_m : m = m2 := (nI_eq (by omega) (by omega)).mp hw2
      subst e_m
      exact k2 _ _ _ _ _ _ _ _ (by omega) (LI_mk hC1 hM ho)
set_option maxHeartbeats 4000000 in
theorem bo_back {G : Cx} {d c : Nat} {h : List va_E} {b : MB} {v : Cv} {F : Lf} {p : MP} {t : MT} {o : MO} {Qc : Option Value → List va_E → Prop} (hd : 100 ≤ d) (hz : gz G = false) (hc9 : c + 1 < 100000) (I : LI G h b v F c p t o) (k1 : ∀ (y : Int32) h1, (∃ fs, h1[80]? = some (.inr (12, fs))) → (∀ Q2 : Option Value → List va_E → Prop, (∀ h2 b2 v2 F2 c2 p2 t2 o2, c2 ≤ c + 1 → LI G h2 b2 v2 F2 c2 p2 t2 o2 → Q2 (some (.int y)) h2) → AM G yX12_back cX12_back 2 (some .int) d 0 0 [.ref (gB G + 80)] h1 Q2) → Qc (some (.int y)) h1) : AM G yX11_back cX11_back 1 (some .int) d 0 0 [.ref (gB G + 0)] h Qc := by
  have hC := I.1
  have hm := I.2.1
  have ho := I.2.2
  have hbv : BV (b, p, t, o) v := hC.bv
  have hok := hC.ok
  have hL := hC.2.1.2.1
  have hH := hC.2.1.2.2.1
  have hSh := hC.2.1.2.2.2.1
  have hK8 := hC.2.1.2.2.2.2.1
  have hR9 := hC.2.1.2.2.2.2.2.1
  have hT := hC.2.1.2.2.2.2.2.2.1
  have h255 := hC.2.1.2.2.2.2.2.2.2
  have hBs := hSh.1
  refine p_back (by omega) hz hC (fun hk hC1 => ?_) (fun hk h1 hF => ?_)
  · refine k1 _ _ (fs_in hC1 hm) (fun Q2 k2 => ?_)
    refine m_back (by omega) hz (MS_in hC1 hm) (fun hk2 => ?_) (fun hk2 f g f1 f2 f3 f4 f5 h2 hM => ?_)
    · have hM := MS_in hC1 hm
      exact k2 _ _ _ _ _ _ _ _ (by omega) (LI_mk hC1 hM ho)
    · rw [hk] at hk2; cases hk2
  · obtain ⟨v1, hC1⟩ := hF (fun j => if j < 36 then gImageMay b j else if 108 ≤ j ∧ j < 144 then gImageMay b j else if j = 146 then gImageMay b j else gMay b j) (gImageLed b) (fun j hj => if_pos hj) (fun j hj => (if_neg (by omega)).trans (if_pos (by omega))) ((if_neg (by omega)).trans ((if_neg (by omega)).trans (if_pos rfl))) (fun j a1 a2 a3 => (if_neg (by omega)).trans ((if_neg a2).trans (if_neg a3))) (fun _ _ => rfl)
    refine k1 _ _ (fs_in hC1 hm) (fun Q2 k2 => ?_)
    refine m_back (by omega) hz (MS_in hC1 hm) (fun hk2 => ?_) (fun hk2 f g f1 f2 f3 f4 f5 h2 hM => ?_)
    · rw [hk] at hk2; cases hk2
    · obtain ⟨v3, hC3⟩ := hF f g f1 f2 f3 f4 f5
      exact k2 _ _ _ _ _ _ _ _ (by omega) (LI_mk hC3 hM ho)
set_option maxHeartbeats 4000000 in
theorem bo_undo {G : Cx} {d c : Nat} {h : List va_E} {b : MB} {v : Cv} {F : Lf} {p : MP} {t : MT} {o : MO} {Qc : Option Value → List va_E → Prop} (hd : 100 ≤ d) (hz : gz G = false) (hc9 : c + 1 < 100000) (I : LI G h b v F c p t o) (k1 : ∀ (y : Int32) h1, (∃ fs, h1[80]? = some (.inr (12, fs))) → (∀ Q2 : Option Value → List va_E → Prop, (∀ h2 b2 v2 F2 c2 p2 t2 o2, c2 ≤ c + 1 → LI G h2 b2 v2 F2 c2 p2 t2 o2 → Q2 (some (.int y)) h2) → AM G yX12_undo cX12_undo 1 (some .int) d 0 0 [.ref (gB G + 80)] h1 Q2) → Qc (some (.int y)) h1) : AM G yX11_undo cX11_undo 1 (some .int) d 0 0 [.ref (gB G + 0)] h Qc := by
  have hC := I.1
  have hm := I.2.1
  have ho := I.2.2
  have hbv : BV (b, p, t, o) v := hC.bv
  have hok := hC.ok
  have hL := hC.2.1.2.1
  have hH := hC.2.1.2.2.1
  have hSh := hC.2.1.2.2.2.1
  have hK8 := hC.2.1.2.2.2.2.1
  have hR9 := hC.2.1.2.2.2.2.2.1
  have hT := hC.2.1.2.2.2.2.2.2.1
  have h255 := hC.2.1.2.2.2.2.2.2.2
  have hBs := hSh.1
  refine p_undo (by omega) hz hC (fun hk hC1 => ?_) (fun hk h1 v1 hC1 => ?_)
  · refine k1 _ _ (fs_in hC1 hm) (fun Q2 k2 => ?_)
    refine m_undo (by omega) hz (MS_in hC1 hm) hH (fun hk2 => ?_) (fun hk2 h2 hM => ?_)
    · have hM := MS_in hC1 hm
      exact k2 _ _ _ _ _ _ _ _ (by omega) (LI_mk hC1 hM ho)
    · omega
  · refine k1 _ _ (fs_in hC1 hm) (fun Q2 k2 => ?_)
    refine m_undo (by omega) hz (MS_in hC1 hm) hH (fun hk2 => ?_) (fun hk2 h2 hM => ?_)
    · omega
    · exact k2 _ _ _ _ _ _ _ _ (by omega) (LI_mk hC1 hM ho)
set_option maxHeartbeats 4000000 in
theorem bo_redo {G : Cx} {d c : Nat} {h : List va_E} {b : MB} {v : Cv} {F : Lf} {p : MP} {t : MT} {o : MO} {Qc : Option Value → List va_E → Prop} (hd : 100 ≤ d) (hz : gz G = false) (hc9 : c + 1 < 100000) (I : LI G h b v F c p t o) (k1 : ∀ (y : Int32) h1, (∃ fs, h1[80]? = some (.inr (12, fs))) → (∀ Q2 : Option Value → List va_E → Prop, (∀ h2 b2 v2 F2 c2 p2 t2 o2, c2 ≤ c + 1 → LI G h2 b2 v2 F2 c2 p2 t2 o2 → Q2 (some (.int y)) h2) → AM G yX12_redo cX12_redo 1 (some .int) d 0 0 [.ref (gB G + 80)] h1 Q2) → Qc (some (.int y)) h1) : AM G yX11_redo cX11_redo 1 (some .int) d 0 0 [.ref (gB G + 0)] h Qc := by
  have hC := I.1
  have hm := I.2.1
  have ho := I.2.2
  have hbv : BV (b, p, t, o) v := hC.bv
  have hok := hC.ok
  have hL := hC.2.1.2.1
  have hH := hC.2.1.2.2.1
  have hSh := hC.2.1.2.2.2.1
  have hK8 := hC.2.1.2.2.2.2.1
  have hR9 := hC.2.1.2.2.2.2.2.1
  have hT := hC.2.1.2.2.2.2.2.2.1
  have h255 := hC.2.1.2.2.2.2.2.2.2
  have hBs := hSh.1
  refine p_redo (by omega) hz hC (fun hk hC1 => ?_) (fun hk h1 v1 hC1 => ?_)
  · refine k1 _ _ (fs_in hC1 hm) (fun Q2 k2 => ?_)
    refine m_redo (by omega) hz (MS_in hC1 hm) hH (fun hk2 => ?_) (fun hk2 h2 hM => ?_)
    · have hM := MS_in hC1 hm
      exact k2 _ _ _ _ _ _ _ _ (by omega) (LI_mk hC1 hM ho)
    · exact absurd hk hk2
  · refine k1 _ _ (fs_in hC1 hm) (fun Q2 k2 => ?_)
    refine m_redo (by omega) hz (MS_in hC1 hm) hH (fun hk2 => ?_) (fun hk2 h2 hM => ?_)
    · exact absurd hk2 hk
    · exact k2 _ _ _ _ _ _ _ _ (by omega) (LI_mk hC1 hM ho)
set_option maxHeartbeats 4000000 in
theorem bo_feed {G : Cx} {d c : Nat} {h : List va_E} {b : MB} {v : Cv} {F : Lf} {p : MP} {t : MT} {o : MO} {Qc : Option Value → List va_E → Prop} {x : Int32} (hd : 100 ≤ d) (hz : gz G = false) (hc9 : c + 1 < 100000) (I : LI G h b v F c p t o) (k1 : ∀ (y : Int32) h1, (∃ fs, h1[80]? = some (.inr (12, fs))) → (∀ Q2 : Option Value → List va_E → Prop, (∀ h2 b2 v2 F2 c2 p2 t2 o2, c2 ≤ c + 1 → LI G h2 b2 v2 F2 c2 p2 t2 o2 → Q2 (some (.int y)) h2) → AM G yX12_feed cX12_feed 2 (some .int) d 0 0 [.ref (gB G + 80), .int (x)] h1 Q2) → Qc (some (.int y)) h1) : AM G yX11_feed cX11_feed 2 (some .int) d 0 0 [.ref (gB G + 0), .int (x)] h Qc := by
  have hC := I.1
  have hm := I.2.1
  have ho := I.2.2
  have hbv : BV (b, p, t, o) v := hC.bv
  have hok := hC.ok
  have hL := hC.2.1.2.1
  have hH := hC.2.1.2.2.1
  have hSh := hC.2.1.2.2.2.1
  have hK8 := hC.2.1.2.2.2.2.1
  have hR9 := hC.2.1.2.2.2.2.2.1
  have hT := hC.2.1.2.2.2.2.2.2.1
  have h255 := hC.2.1.2.2.2.2.2.2.2
  have hBs := hSh.1
  refine p_feed (by omega) hz hC (fun hb hC1 => ?_) (fun n hn hr hk hC1 => ?_) (fun n hn hr hk h1 hC1 => ?_)
  · refine k1 _ _ (fs_in hC1 hm) (fun Q2 k2 => ?_)
    refine m_feed (by omega) hz (MS_in hC1 hm) hT (fun hb2 => ?_) (fun n2 hn2 hr2 hk2 => ?_) (fun n2 hn2 hr2 hk2 h2 hM => ?_)
    · have hM := MS_in hC1 hm
      exact k2 _ _ _ _ _ _ _ _ (by omega) (LI_mk hC1 hM ho)
    · subst hr2
      exact absurd hb (by rw [inR_in (hi := 255) (n := n2) (by decide) (by omega)]; decide)
    · subst hr2
      exact absurd hb (by rw [inR_in (hi := 255) (n := n2) (by decide) (by omega)]; decide)
  · subst hr
    refine k1 _ _ (fs_in hC1 hm) (fun Q2 k2 => ?_)
    refine m_feed (by omega) hz (MS_in hC1 hm) hT (fun hb2 => ?_) (fun n2 hn2 hr2 hk2 => ?_) (fun n2 hn2 hr2 hk2 h2 hM => ?_)
    · exact absurd hb2 (by rw [inR_in (hi := 255) (n := n) (by decide) (by omega)]; decide)
    · have e_n : n = n2 := (nI_eq (by omega) (by omega)).mp hr2
      subst e_n
      have hM := MS_in hC1 hm
      exact k2 _ _ _ _ _ _ _ _ (by omega) (LI_mk hC1 hM ho)
    · omega
  · subst hr
    refine k1 _ _ (fs_in hC1 hm) (fun Q2 k2 => ?_)
    refine m_feed (by omega) hz (MS_in hC1 hm) hT (fun hb2 => ?_) (fun n2 hn2 hr2 hk2 => ?_) (fun n2 hn2 hr2 hk2 h2 hM => ?_)
    · exact absurd hb2 (by rw [inR_in (hi := 255) (n := n) (by decide) (by omega)]; decide)
    · omega
    · have e_n : n = n2 := (nI_eq (by omega) (by omega)).mp hr2
      subst e_n
      exact k2 _ _ _ _ _ _ _ _ (by omega) (LI_mk hC1 hM ho)
set_option maxHeartbeats 4000000 in
theorem bo_body {G : Cx} {d c : Nat} {h : List va_E} {b : MB} {v : Cv} {F : Lf} {p : MP} {t : MT} {o : MO} {Qc : Option Value → List va_E → Prop} {x : Int32} (hd : 100 ≤ d) (hz : gz G = false) (hc9 : c + 1 < 100000) (I : LI G h b v F c p t o) (k1 : ∀ (y : Int32) h1, (∃ fs, h1[80]? = some (.inr (12, fs))) → (∀ Q2 : Option Value → List va_E → Prop, (∀ h2 b2 v2 F2 c2 p2 t2 o2, c2 ≤ c + 1 → LI G h2 b2 v2 F2 c2 p2 t2 o2 → Q2 (some (.int y)) h2) → AM G yX12_body cX12_body 2 (some .int) d 0 0 [.ref (gB G + 80), .int (x)] h1 Q2) → Qc (some (.int y)) h1) : AM G yX11_body cX11_body 2 (some .int) d 0 0 [.ref (gB G + 0), .int (x)] h Qc := by
  have hC := I.1
  have hm := I.2.1
  have ho := I.2.2
  have hbv : BV (b, p, t, o) v := hC.bv
  have hok := hC.ok
  have hL := hC.2.1.2.1
  have hH := hC.2.1.2.2.1
  have hSh := hC.2.1.2.2.2.1
  have hK8 := hC.2.1.2.2.2.2.1
  have hR9 := hC.2.1.2.2.2.2.2.1
  have hT := hC.2.1.2.2.2.2.2.2.1
  have h255 := hC.2.1.2.2.2.2.2.2.2
  have hBs := hSh.1
  refine p_body (by omega) hz hC (fun hb hC1 => ?_) (fun n hn hr hk hC1 => ?_) (fun n hn hr hk h1 hC1 => ?_)
  · refine k1 _ _ (fs_in hC1 hm) (fun Q2 k2 => ?_)
    refine m_body (by omega) hz (MS_in hC1 hm) hBs (fun hb2 => ?_) (fun n2 hn2 hr2 hk2 => ?_) (fun n2 hn2 hr2 hk2 h2 hM => ?_)
    · have hM := MS_in hC1 hm
      exact k2 _ _ _ _ _ _ _ _ (by omega) (LI_mk hC1 hM ho)
    · subst hr2
      exact absurd hb (by rw [inR_in (hi := 7) (n := n2) (by decide) (by omega)]; decide)
    · subst hr2
      exact absurd hb (by rw [inR_in (hi := 7) (n := n2) (by decide) (by omega)]; decide)
  · subst hr
    refine k1 _ _ (fs_in hC1 hm) (fun Q2 k2 => ?_)
    refine m_body (by omega) hz (MS_in hC1 hm) hBs (fun hb2 => ?_) (fun n2 hn2 hr2 hk2 => ?_) (fun n2 hn2 hr2 hk2 h2 hM => ?_)
    · exact absurd hb2 (by rw [inR_in (hi := 7) (n := n) (by decide) (by omega)]; decide)
    · have e_n : n = n2 := (nI_eq (by omega) (by omega)).mp hr2
      subst e_n
      have hM := MS_in hC1 hm
      exact k2 _ _ _ _ _ _ _ _ (by omega) (LI_mk hC1 hM ho)
    · omega
  · subst hr
    refine k1 _ _ (fs_in hC1 hm) (fun Q2 k2 => ?_)
    refine m_body (by omega) hz (MS_in hC1 hm) hBs (fun hb2 => ?_) (fun n2 hn2 hr2 hk2 => ?_) (fun n2 hn2 hr2 hk2 h2 hM => ?_)
    · exact absurd hb2 (by rw [inR_in (hi := 7) (n := n) (by decide) (by omega)]; decide)
    · omega
    · have e_n : n = n2 := (nI_eq (by omega) (by omega)).mp hr2
      subst e_n
      exact k2 _ _ _ _ _ _ _ _ (by omega) (LI_mk hC1 hM ho)
set_option maxHeartbeats 4000000 in
theorem bo_act {G : Cx} {d c : Nat} {h : List va_E} {b : MB} {v : Cv} {F : Lf} {p : MP} {t : MT} {o : MO} {Qc : Option Value → List va_E → Prop} {sc ac x : Int32} (hd : 100 ≤ d) (hz : gz G = false) (hc9 : c + 1 < 100000) (I : LI G h b v F c p t o) (k1 : ∀ (y : Int32) h1, (∃ fs, h1[80]? = some (.inr (12, fs))) → (∀ Q2 : Option Value → List va_E → Prop, (∀ h2 b2 v2 F2 c2 p2 t2 o2, c2 ≤ c + 1 → LI G h2 b2 v2 F2 c2 p2 t2 o2 → Q2 (some (.int y)) h2) → AM G yX12_act cX12_act 4 (some .int) d 0 0 [.ref (gB G + 80), .int (sc), .int (ac), .int (x)] h1 Q2) → Qc (some (.int y)) h1) : AM G yX11_act cX11_act 4 (some .int) d 0 0 [.ref (gB G + 0), .int (sc), .int (ac), .int (x)] h Qc := by
  have hC := I.1
  have hm := I.2.1
  have ho := I.2.2
  have hbv : BV (b, p, t, o) v := hC.bv
  have hok := hC.ok
  have hL := hC.2.1.2.1
  have hH := hC.2.1.2.2.1
  have hSh := hC.2.1.2.2.2.1
  have hK8 := hC.2.1.2.2.2.2.1
  have hR9 := hC.2.1.2.2.2.2.2.1
  have hT := hC.2.1.2.2.2.2.2.2.1
  have h255 := hC.2.1.2.2.2.2.2.2.2
  have hBs := hSh.1
  refine p_act (by omega) hz hC (fun hb h1 hC1 => ?_) (fun n m hn hr hm1 hw h1 hC1 => ?_)
  · refine k1 _ _ (fs_in hC1 hm) (fun Q2 k2 => ?_)
    refine m_act (by omega) hz (MS_in hC1 hm) hBs hK8 (fun hb2 h2 o2 hM ho2 => ?_) (fun n2 m2 hn2 hr2 hm2 hw2 h2 o2 hM ho2 => ?_)
    · exact k2 _ _ _ _ _ _ _ _ (by omega) (LI_mk hC1 hM (ho2.trans ho))
    · subst hr2 hw2
      exact absurd hb (by rw [in_body hBs (show n2 < gBodies b by omega), inR_in (hi := 3) (n := m2) (by decide) (by omega)]; decide)
  · subst hr hw
    refine k1 _ _ (fs_in hC1 hm) (fun Q2 k2 => ?_)
    refine m_act (by omega) hz (MS_in hC1 hm) hBs hK8 (fun hb2 h2 o2 hM ho2 => ?_) (fun n2 m2 hn2 hr2 hm2 hw2 h2 o2 hM ho2 => ?_)
    · exact absurd hb2 (by rw [in_body hBs (show n < gBodies b by omega), inR_in (hi := 3) (n := m) (by decide) (by omega)]; decide)
    · have e_n : n = n2 := (nI_eq (by omega) (by omega)).mp hr2
      subst e_n
      have e_m : m = m2 := (nI_eq (by omega) (by omega)).mp hw2
      subst e_m
      exact k2 _ _ _ _ _ _ _ _ (by omega) (LI_mk hC1 hM (ho2.trans ho))
set_option maxHeartbeats 4000000 in
theorem bo_trace {G : Cx} {d c : Nat} {h : List va_E} {b : MB} {v : Cv} {F : Lf} {p : MP} {t : MT} {o : MO} {Qc : Option Value → List va_E → Prop} {x : Int32} (hd : 100 ≤ d) (hz : gz G = false) (hc9 : c + 1 < 100000) (I : LI G h b v F c p t o) (k1 : ∀ (y : Int32) h1, (∃ fs, h1[80]? = some (.inr (12, fs))) → (∀ Q2 : Option Value → List va_E → Prop, (∀ h2 b2 v2 F2 c2 p2 t2 o2, c2 ≤ c + 1 → LI G h2 b2 v2 F2 c2 p2 t2 o2 → Q2 (some (.int y)) h2) → AM G yX12_trace cX12_trace 2 (some .int) d 0 0 [.ref (gB G + 80), .int (x)] h1 Q2) → Qc (some (.int y)) h1) : AM G yX11_trace cX11_trace 2 (some .int) d 0 0 [.ref (gB G + 0), .int (x)] h Qc := by
  have hC := I.1
  have hm := I.2.1
  have ho := I.2.2
  have hbv : BV (b, p, t, o) v := hC.bv
  have hok := hC.ok
  have hL := hC.2.1.2.1
  have hH := hC.2.1.2.2.1
  have hSh := hC.2.1.2.2.2.1
  have hK8 := hC.2.1.2.2.2.2.1
  have hR9 := hC.2.1.2.2.2.2.2.1
  have hT := hC.2.1.2.2.2.2.2.2.1
  have h255 := hC.2.1.2.2.2.2.2.2.2
  have hBs := hSh.1
  refine p_trace (by omega) hz hC (fun hb hC1 => ?_) (fun n hn hr hC1 => ?_)
  · refine k1 _ _ (fs_in hC1 hm) (fun Q2 k2 => ?_)
    refine m_trace (by omega) hz (MS_in hC1 hm) hR9 (fun hb2 => ?_) (fun n2 hn2 hr2 => ?_)
    · have hM := MS_in hC1 hm
      exact k2 _ _ _ _ _ _ _ _ (by omega) (LI_mk hC1 hM ho)
    · subst hr2
      exact absurd hb (by rw [in_body (show min (gRan b) 24 ≤ 50 by omega) (show n2 < min (gRan b) 24 by omega)]; decide)
  · subst hr
    refine k1 _ _ (fs_in hC1 hm) (fun Q2 k2 => ?_)
    refine m_trace (by omega) hz (MS_in hC1 hm) hR9 (fun hb2 => ?_) (fun n2 hn2 hr2 => ?_)
    · exact absurd hb2 (by rw [in_body (show min (gRan b) 24 ≤ 50 by omega) (show n < min (gRan b) 24 by omega)]; decide)
    · have e_n : n = n2 := (nI_eq (by omega) (by omega)).mp hr2
      subst e_n
      have hM := MS_in hC1 hm
      exact k2 _ _ _ _ _ _ _ _ (by omega) (LI_mk hC1 hM ho)
set_option maxHeartbeats 4000000 in
theorem bo_keep {G : Cx} {d c : Nat} {h : List va_E} {b : MB} {v : Cv} {F : Lf} {p : MP} {t : MT} {o : MO} {Qc : Option Value → List va_E → Prop} {dd w : Int32} (hd : 100 ≤ d) (hz : gz G = false) (hc9 : c + 1 < 100000) (I : LI G h b v F c p t o) (k1 : ∀ (y : Int32) h1, (∃ fs, h1[80]? = some (.inr (12, fs))) → (∀ Q2 : Option Value → List va_E → Prop, (∀ h2 b2 v2 F2 c2 p2 t2 o2, c2 ≤ c + 1 → LI G h2 b2 v2 F2 c2 p2 t2 o2 → Q2 (some (.int y)) h2) → AM G yX12_keep cX12_keep 3 (some .int) d 0 0 [.ref (gB G + 80), .int (dd), .int (w)] h1 Q2) → Qc (some (.int y)) h1) : AM G yX11_keep cX11_keep 3 (some .int) d 0 0 [.ref (gB G + 0), .int (dd), .int (w)] h Qc := by
  have hC := I.1
  have hm := I.2.1
  have ho := I.2.2
  have hbv : BV (b, p, t, o) v := hC.bv
  have hok := hC.ok
  have hL := hC.2.1.2.1
  have hH := hC.2.1.2.2.1
  have hSh := hC.2.1.2.2.2.1
  have hK8 := hC.2.1.2.2.2.2.1
  have hR9 := hC.2.1.2.2.2.2.2.1
  have hT := hC.2.1.2.2.2.2.2.2.1
  have h255 := hC.2.1.2.2.2.2.2.2.2
  have hBs := hSh.1
  refine p_keep (by omega) hz hC (fun hb hC1 => ?_) (fun q hq hdd hw h1 hC1 => ?_)
  · refine k1 _ _ (fs_in hC1 hm) (fun Q2 k2 => ?_)
    refine m_keep (by omega) hz (MS_in hC1 hm) hBs (fun hb2 => ?_) (fun q2 hq2 hdd2 hw2 h2 hM => ?_)
    · have hM := MS_in hC1 hm
      exact k2 _ _ _ _ _ _ _ _ (by omega) (LI_mk hC1 hM ho)
    · subst hdd2
      rcases hw2 with z | z
      · rw [inR_in (hi := 5) (n := q2) (by decide) (by omega), decide_eq_true z] at hb; simp at hb
      · rw [inR_in (hi := 5) (n := q2) (by decide) (by omega), z] at hb; simp at hb
  · subst hdd
    refine k1 _ _ (fs_in hC1 hm) (fun Q2 k2 => ?_)
    refine m_keep (by omega) hz (MS_in hC1 hm) hBs (fun hb2 => ?_) (fun q2 hq2 hdd2 hw2 h2 hM => ?_)
    · rcases hw with z | z
      · rw [inR_in (hi := 5) (n := q) (by decide) (by omega), decide_eq_true z] at hb2; simp at hb2
      · rw [inR_in (hi := 5) (n := q) (by decide) (by omega), z] at hb2; simp at hb2
    · have e_q : q = q2 := (nI_eq (by omega) (by omega)).mp hdd2
      subst e_q
      exact k2 _ _ _ _ _ _ _ _ (by omega) (LI_mk hC1 hM ho)
set_option maxHeartbeats 4000000 in
theorem bo_row {G : Cx} {d c : Nat} {h : List va_E} {b : MB} {v : Cv} {F : Lf} {p : MP} {t : MT} {o : MO} {Qc : Option Value → List va_E → Prop} {dd s n : Int32} (hd : 100 ≤ d) (hz : gz G = false) (hc9 : c + 1 < 100000) (I : LI G h b v F c p t o) (k1 : ∀ (y : Int32) h1, (∃ fs, h1[80]? = some (.inr (12, fs))) → (∀ Q2 : Option Value → List va_E → Prop, (∀ h2 b2 v2 F2 c2 p2 t2 o2, c2 ≤ c + 1 → LI G h2 b2 v2 F2 c2 p2 t2 o2 → Q2 (some (.int y)) h2) → AM G yX12_row cX12_row 5 (some .int) d 0 0 [.ref (gB G + 80), .int (dd), .int (s), .int (n)] h1 Q2) → Qc (some (.int y)) h1) : AM G yX11_row cX11_row 4 (some .int) d 0 0 [.ref (gB G + 0), .int (dd), .int (s), .int (n)] h Qc := by
  have hC := I.1
  have hm := I.2.1
  have ho := I.2.2
  have hbv : BV (b, p, t, o) v := hC.bv
  have hok := hC.ok
  have hL := hC.2.1.2.1
  have hH := hC.2.1.2.2.1
  have hSh := hC.2.1.2.2.2.1
  have hK8 := hC.2.1.2.2.2.2.1
  have hR9 := hC.2.1.2.2.2.2.2.1
  have hT := hC.2.1.2.2.2.2.2.2.1
  have h255 := hC.2.1.2.2.2.2.2.2.2
  have hBs := hSh.1
  refine p_row (by omega) hz hC (fun hb hC1 => ?_) (fun hb hn0 hC1 => ?_) (fun q s1 m hq hdd hs1 hs2 hm1 hn1 h1 hF => ?_)
  · refine k1 _ _ (fs_in hC1 hm) (fun Q2 k2 => ?_)
    refine m_row (by omega) hz (MS_in hC1 hm) (fun hb2 => ?_) (fun hb2 hn2 => ?_) (fun q2 s2 m2 hq2 hdd2 hs3 hs4 hm2 hn4 f f1 f2 h2 hM => ?_)
    · have hM := MS_in hC1 hm
      exact k2 _ _ _ _ _ _ _ _ (by omega) (LI_mk hC1 hM ho)
    · rw [hb] at hb2; cases hb2
    · subst hdd2 hs4 hn4
      exact absurd hb (by rw [inR_in (hi := 5) (n := q2) (by decide) (by omega), inR_in (hi := 4) (n := s2) (by decide) (by omega), decide_eq_true ((nI_leI (a := m2) (b := 60) (by omega) (by decide)).mpr (by omega))]; decide)
  · refine k1 _ _ (fs_in hC1 hm) (fun Q2 k2 => ?_)
    refine m_row (by omega) hz (MS_in hC1 hm) (fun hb2 => ?_) (fun hb2 hn2 => ?_) (fun q2 s2 m2 hq2 hdd2 hs3 hs4 hm2 hn4 f f1 f2 h2 hM => ?_)
    · rw [hb] at hb2; cases hb2
    · have hM := MS_in hC1 hm
      exact k2 _ _ _ _ _ _ _ _ (by omega) (LI_mk hC1 hM ho)
    · subst hn4
      exact absurd hn0 (nI_nn (by omega))
  · subst hdd hs2 hn1
    have hC1 := hF (fun j => if 60 * q ≤ j ∧ j < 60 * q + 60 then 0 else gItems b j) (fun i hi => if_pos (by omega)) (fun j hj => if_neg (by omega))
    refine k1 _ _ (fs_in hC1 hm) (fun Q2 k2 => ?_)
    refine m_row (by omega) hz (MS_in hC1 hm) (fun hb2 => ?_) (fun hb2 hn2 => ?_) (fun q2 s2 m2 hq2 hdd2 hs3 hs4 hm2 hn4 f f1 f2 h2 hM => ?_)
    · exact absurd hb2 (by rw [inR_in (hi := 5) (n := q) (by decide) (by omega), inR_in (hi := 4) (n := s1) (by decide) (by omega), decide_eq_true ((nI_leI (a := m) (b := 60) (by omega) (by decide)).mpr (by omega))]; decide)
    · exact absurd hn2 (nI_nn (by omega))
    · have e_q : q = q2 := (nI_eq (by omega) (by omega)).mp hdd2
      subst e_q
      have e_s1 : s1 = s2 := (nI_eq (by omega) (by omega)).mp hs4
      subst e_s1
      have e_m : m = m2 := (nI_eq (by omega) (by omega)).mp hn4
      subst e_m
      have hC1 := hF f f1 f2
      exact k2 _ _ _ _ _ _ _ _ (by omega) (LI_mk hC1 hM ho)
set_option maxHeartbeats 4000000 in
theorem bo_put {G : Cx} {d c : Nat} {h : List va_E} {b : MB} {v : Cv} {F : Lf} {p : MP} {t : MT} {o : MO} {Qc : Option Value → List va_E → Prop} {dd i : Int32} {L : Int64} (hd : 100 ≤ d) (hz : gz G = false) (hc9 : c + 1 < 100000) (I : LI G h b v F c p t o) (k1 : ∀ (y : Int32) h1, (∃ fs, h1[80]? = some (.inr (12, fs))) → (∀ Q2 : Option Value → List va_E → Prop, (∀ h2 b2 v2 F2 c2 p2 t2 o2, c2 ≤ c + 1 → LI G h2 b2 v2 F2 c2 p2 t2 o2 → Q2 (some (.int y)) h2) → AM G yX12_put cX12_put 6 (some .int) d 0 0 [.ref (gB G + 80), .int (dd), .int (i), .long (L)] h1 Q2) → Qc (some (.int y)) h1) : AM G yX11_put cX11_put 6 (some .int) d 0 0 [.ref (gB G + 0), .int (dd), .int (i), .long (L)] h Qc := by
  have hC := I.1
  have hm := I.2.1
  have ho := I.2.2
  have hbv : BV (b, p, t, o) v := hC.bv
  have hok := hC.ok
  have hL := hC.2.1.2.1
  have hH := hC.2.1.2.2.1
  have hSh := hC.2.1.2.2.2.1
  have hK8 := hC.2.1.2.2.2.2.1
  have hR9 := hC.2.1.2.2.2.2.2.1
  have hT := hC.2.1.2.2.2.2.2.2.1
  have h255 := hC.2.1.2.2.2.2.2.2.2
  have hBs := hSh.1
  refine p_put (by omega) hz hC (fun hb hC1 => ?_) (fun q n1 s1 hq hdd hi hn hs1 hs2 h1 hC1 => ?_)
  · refine k1 _ _ (fs_in hC1 hm) (fun Q2 k2 => ?_)
    refine m_put (by omega) hz (MS_in hC1 hm) hSh (fun hb2 => ?_) (fun q2 n2 s2 hq2 hdd2 hi2 hn2 hs3 hs4 h2 hM => ?_)
    · have hM := MS_in hC1 hm
      exact k2 _ _ _ _ _ _ _ _ (by omega) (LI_mk hC1 hM ho)
    · subst hdd2 hi2
      exact absurd (rf_0 hq2 hn2 hs3 hs4 hSh) hb
  · subst hdd hi
    have m60 := (hSh.2 q hq).2
    refine k1 _ _ (fs_in hC1 hm) (fun Q2 k2 => ?_)
    refine m_put (by omega) hz (MS_in hC1 hm) hSh (fun hb2 => ?_) (fun q2 n2 s2 hq2 hdd2 hi2 hn2 hs3 hs4 h2 hM => ?_)
    · exact absurd (rf_0 hq hn hs1 hs2 hSh) hb2
    · have e_q : q = q2 := (nI_eq (by omega) (by omega)).mp hdd2
      subst e_q
      have e_s : 50 + s1 = 50 + s2 := (nI_eq (by omega) (by omega)).mp (hs2.symm.trans hs4)
      have e_s : s1 = s2 := by omega
      subst e_s
      have e_n1 : n1 = n2 := (nI_eq (by omega) (by have := (hSh.2 q hq).2; omega)).mp hi2
      subst e_n1
      exact k2 _ _ _ _ _ _ _ _ (by omega) (LI_mk hC1 hM ho)
set_option maxHeartbeats 4000000 in
theorem bo_element {G : Cx} {d c : Nat} {h : List va_E} {b : MB} {v : Cv} {F : Lf} {p : MP} {t : MT} {o : MO} {Qc : Option Value → List va_E → Prop} {dd i : Int32} (hd : 100 ≤ d) (hz : gz G = false) (hc9 : c + 1 < 100000) (I : LI G h b v F c p t o) (k1 : ∀ (y : Int64) h1, (∃ fs, h1[80]? = some (.inr (12, fs))) → (∀ Q2 : Option Value → List va_E → Prop, (∀ h2 b2 v2 F2 c2 p2 t2 o2, c2 ≤ c + 1 → LI G h2 b2 v2 F2 c2 p2 t2 o2 → Q2 (some (.long y)) h2) → AM G yX12_element cX12_element 3 (some .long) d 0 0 [.ref (gB G + 80), .int (dd), .int (i)] h1 Q2) → Qc (some (.long y)) h1) : AM G yX11_element cX11_element 3 (some .long) d 0 0 [.ref (gB G + 0), .int (dd), .int (i)] h Qc := by
  have hC := I.1
  have hm := I.2.1
  have ho := I.2.2
  have hbv : BV (b, p, t, o) v := hC.bv
  have hok := hC.ok
  have hL := hC.2.1.2.1
  have hH := hC.2.1.2.2.1
  have hSh := hC.2.1.2.2.2.1
  have hK8 := hC.2.1.2.2.2.2.1
  have hR9 := hC.2.1.2.2.2.2.2.1
  have hT := hC.2.1.2.2.2.2.2.2.1
  have h255 := hC.2.1.2.2.2.2.2.2.2
  have hBs := hSh.1
  refine p_element (by omega) hz hC (fun hb hC1 => ?_) (fun q n1 s1 hq hdd hi hn hs1 hs2 hC1 => ?_)
  · refine k1 _ _ (fs_in hC1 hm) (fun Q2 k2 => ?_)
    refine m_element (by omega) hz (MS_in hC1 hm) hSh (fun hb2 => ?_) (fun q2 n2 s2 hq2 hdd2 hi2 hn2 hs3 hs4 => ?_)
    · have hM := MS_in hC1 hm
      exact k2 _ _ _ _ _ _ _ _ (by omega) (LI_mk hC1 hM ho)
    · subst hdd2 hi2
      exact absurd (rf_0 hq2 hn2 hs3 hs4 hSh) hb
  · subst hdd hi
    have m60 := (hSh.2 q hq).2
    refine k1 _ _ (fs_in hC1 hm) (fun Q2 k2 => ?_)
    refine m_element (by omega) hz (MS_in hC1 hm) hSh (fun hb2 => ?_) (fun q2 n2 s2 hq2 hdd2 hi2 hn2 hs3 hs4 => ?_)
    · exact absurd (rf_0 hq hn hs1 hs2 hSh) hb2
    · have e_q : q = q2 := (nI_eq (by omega) (by omega)).mp hdd2
      subst e_q
      have e_s : 50 + s1 = 50 + s2 := (nI_eq (by omega) (by omega)).mp (hs2.symm.trans hs4)
      have e_s : s1 = s2 := by omega
      subst e_s
      have e_n1 : n1 = n2 := (nI_eq (by omega) (by have := (hSh.2 q hq).2; omega)).mp hi2
      subst e_n1
      have hM := MS_in hC1 hm
      exact k2 _ _ _ _ _ _ _ _ (by omega) (LI_mk hC1 hM ho)
set_option maxHeartbeats 4000000 in
theorem bo_shift {G : Cx} {d c : Nat} {h : List va_E} {b : MB} {v : Cv} {F : Lf} {p : MP} {t : MT} {o : MO} {Qc : Option Value → List va_E → Prop} {dd i ee j n : Int32} (hd : 100 ≤ d) (hz : gz G = false) (hc9 : c + 1 < 100000) (I : LI G h b v F c p t o) (k1 : ∀ (y : Int32) h1, (∃ fs, h1[80]? = some (.inr (12, fs))) → (∀ Q2 : Option Value → List va_E → Prop, (∀ h2 b2 v2 F2 c2 p2 t2 o2, c2 ≤ c + 1 → LI G h2 b2 v2 F2 c2 p2 t2 o2 → Q2 (some (.int y)) h2) → AM G yX12_shift cX12_shift 7 (some .int) d 0 0 [.ref (gB G + 80), .int (dd), .int (i), .int (ee), .int (j), .int (n)] h1 Q2) → Qc (some (.int y)) h1) : AM G yX11_shift cX11_shift 8 (some .int) d 0 0 [.ref (gB G + 0), .int (dd), .int (i), .int (ee), .int (j), .int (n)] h Qc := by
  have hC := I.1
  have hm := I.2.1
  have ho := I.2.2
  have hbv : BV (b, p, t, o) v := hC.bv
  have hok := hC.ok
  have hL := hC.2.1.2.1
  have hH := hC.2.1.2.2.1
  have hSh := hC.2.1.2.2.2.1
  have hK8 := hC.2.1.2.2.2.2.1
  have hR9 := hC.2.1.2.2.2.2.2.1
  have hT := hC.2.1.2.2.2.2.2.2.1
  have h255 := hC.2.1.2.2.2.2.2.2.2
  have hBs := hSh.1
  refine p_shift (by omega) hz hC (fun y hy hy0 hC1 => ?_) (fun q i1 q5 j1 n1 hq hq5 b1 b2 b3 b4 b5 hl1 hl2 hs h1 hF => ?_)
  · subst hy
    refine k1 _ _ (fs_in hC1 hm) (fun Q2 k2 => ?_)
    refine m_shift (by omega) hz (MS_in hC1 hm) hSh (fun y2 hy2 hy3 => ?_) (fun q2 i2 q6 j2 n2 hq2 hq6 a1 a2 a3 a4 a5 hl3 hl4 hs4 f o2 f1 f2 h2 hM ho2 => ?_)
    · subst hy2
      have hM := MS_in hC1 hm
      exact k2 _ _ _ _ _ _ _ _ (by omega) (LI_mk hC1 hM ho)
    · subst a1 a2 a3 a4 a5
      exact absurd (sh_0 hq2 hq6 hl3 hl4 hs4 hSh) hy0
  · subst b1 b2 b3 b4 b5
    have m60 := (hSh.2 q hq).2
    have m61 := (hSh.2 q5 hq5).2
    have hC1 := hF (fun j => if 60 * q5 + j1 ≤ j ∧ j < 60 * q5 + j1 + n1 then gItems b (60 * q + i1 + (j - (60 * q5 + j1))) else gItems b j) (fun z hz9 => (if_pos (by omega)).trans (congrArg (gItems b) (by omega))) (fun z hz9 => if_neg (by omega))
    refine k1 _ _ (fs_in hC1 hm) (fun Q2 k2 => ?_)
    refine m_shift (by omega) hz (MS_in hC1 hm) hSh (fun y2 hy2 hy3 => ?_) (fun q2 i2 q6 j2 n2 hq2 hq6 a1 a2 a3 a4 a5 hl3 hl4 hs4 f o2 f1 f2 h2 hM ho2 => ?_)
    · subst hy2
      exact absurd (sh_0 hq hq5 hl1 hl2 hs hSh) hy3
    · have e_q : q = q2 := (nI_eq (by omega) (by omega)).mp a1
      subst e_q
      have e_q5 : q5 = q6 := (nI_eq (by omega) (by omega)).mp a3
      subst e_q5
      have m62 := (hSh.2 q hq).2
      have m63 := (hSh.2 q5 hq5).2
      have e_i1 : i1 = i2 := (nI_eq (by omega) (by omega)).mp a2
      subst e_i1
      have e_j1 : j1 = j2 := (nI_eq (by omega) (by omega)).mp a4
      subst e_j1
      have e_n1 : n1 = n2 := (nI_eq (by omega) (by omega)).mp a5
      subst e_n1
      have hC1 := hF f f1 f2
      exact k2 _ _ _ _ _ _ _ _ (by omega) (LI_mk hC1 hM (ho2.trans ho))
set_option maxHeartbeats 4000000 in
theorem bo_taken {G : Cx} {d c : Nat} {h : List va_E} {b : MB} {v : Cv} {F : Lf} {p : MP} {t : MT} {o : MO} {Qc : Option Value → List va_E → Prop} {dd k9 : Int32} (hd : 100 ≤ d) (hz : gz G = false) (hc9 : c + 1 < 100000) (I : LI G h b v F c p t o) (k1 : ∀ (y : Int32) h1, (∃ fs, h1[80]? = some (.inr (12, fs))) → (∀ Q2 : Option Value → List va_E → Prop, (∀ h2 b2 v2 F2 c2 p2 t2 o2, c2 ≤ c + 1 → LI G h2 b2 v2 F2 c2 p2 t2 o2 → Q2 (some (.int y)) h2) → AM G yX12_taken cX12_taken 4 (some .int) d 0 0 [.ref (gB G + 80), .int (dd), .int (k9)] h1 Q2) → Qc (some (.int y)) h1) : AM G yX11_taken cX11_taken 5 (some .int) d 0 0 [.ref (gB G + 0), .int (dd), .int (k9)] h Qc := by
  have hC := I.1
  have hm := I.2.1
  have ho := I.2.2
  have hbv : BV (b, p, t, o) v := hC.bv
  have hok := hC.ok
  have hL := hC.2.1.2.1
  have hH := hC.2.1.2.2.1
  have hSh := hC.2.1.2.2.2.1
  have hK8 := hC.2.1.2.2.2.2.1
  have hR9 := hC.2.1.2.2.2.2.2.1
  have hT := hC.2.1.2.2.2.2.2.2.1
  have h255 := hC.2.1.2.2.2.2.2.2.2
  have hBs := hSh.1
  refine p_taken (by omega) hz hC (fun hb hC1 => ?_) (fun q n hq hdd hk3 hn hs hC1 => ?_) (fun q n hq hdd hk3 hn hs hC1 => ?_) (fun q m n hq hdd hk3 hn hm1 hs y hy hC1 => ?_)
  · refine k1 _ _ (fs_in hC1 hm) (fun Q2 k2 => ?_)
    refine m_taken (by omega) hz (MS_in hC1 hm) hSh hK8 (fun hb2 => ?_) (fun q2 n2 hq2 hdd2 hk4 hn2 hs2 => ?_) (fun q2 n2 hq2 hdd2 hk4 hn2 hs2 => ?_) (fun q2 m2 n2 hq2 hdd2 hk4 hn2 hm2 hs2 y2 hy2 => ?_)
    · have hM := MS_in hC1 hm
      exact k2 _ _ _ _ _ _ _ _ (by omega) (LI_mk hC1 hM ho)
    · subst hdd2 hk4
      exact absurd hb (by rw [inR_in (hi := 5) (n := q2) (by decide) (by omega), inR_in (hi := 7) (n := n2) (by decide) (by omega)]; decide)
    · subst hdd2 hk4
      exact absurd hb (by rw [inR_in (hi := 5) (n := q2) (by decide) (by omega), inR_in (hi := 7) (n := n2) (by decide) (by omega)]; decide)
    · subst hdd2 hk4
      exact absurd hb (by rw [inR_in (hi := 5) (n := q2) (by decide) (by omega), inR_in (hi := 7) (n := n2) (by decide) (by omega)]; decide)
  · subst hdd hk3
    refine k1 _ _ (fs_in hC1 hm) (fun Q2 k2 => ?_)
    refine m_taken (by omega) hz (MS_in hC1 hm) hSh hK8 (fun hb2 => ?_) (fun q2 n2 hq2 hdd2 hk4 hn2 hs2 => ?_) (fun q2 n2 hq2 hdd2 hk4 hn2 hs2 => ?_) (fun q2 m2 n2 hq2 hdd2 hk4 hn2 hm2 hs2 y2 hy2 => ?_)
    · exact absurd hb2 (by rw [inR_in (hi := 5) (n := q) (by decide) (by omega), inR_in (hi := 7) (n := n) (by decide) (by omega)]; decide)
    · have hM := MS_in hC1 hm
      exact k2 _ _ _ _ _ _ _ _ (by omega) (LI_mk hC1 hM ho)
    · have e_q : q = q2 := (nI_eq (by omega) (by omega)).mp hdd2
      subst e_q
      have e_n : n = n2 := (nI_eq (by omega) (by omega)).mp hk4
      subst e_n
      exact absurd (Int32.lt_of_lt_of_le hs (Int32.le_trans (by decide) hs2)) Int32.lt_irrefl
    · have e_q : q = q2 := (nI_eq (by omega) (by omega)).mp hdd2
      subst e_q
      have e_n : n = n2 := (nI_eq (by omega) (by omega)).mp hk4
      subst e_n
      rw [hs2] at hs; exact absurd hs (nI_nn (by omega))
  · subst hdd hk3
    refine k1 _ _ (fs_in hC1 hm) (fun Q2 k2 => ?_)
    refine m_taken (by omega) hz (MS_in hC1 hm) hSh hK8 (fun hb2 => ?_) (fun q2 n2 hq2 hdd2 hk4 hn2 hs2 => ?_) (fun q2 n2 hq2 hdd2 hk4 hn2 hs2 => ?_) (fun q2 m2 n2 hq2 hdd2 hk4 hn2 hm2 hs2 y2 hy2 => ?_)
    · exact absurd hb2 (by rw [inR_in (hi := 5) (n := q) (by decide) (by omega), inR_in (hi := 7) (n := n) (by decide) (by omega)]; decide)
    · have e_q : q = q2 := (nI_eq (by omega) (by omega)).mp hdd2
      subst e_q
      have e_n : n = n2 := (nI_eq (by omega) (by omega)).mp hk4
      subst e_n
      exact absurd (Int32.lt_of_lt_of_le hs2 (Int32.le_trans (by decide) hs)) Int32.lt_irrefl
    · have hM := MS_in hC1 hm
      exact k2 _ _ _ _ _ _ _ _ (by omega) (LI_mk hC1 hM ho)
    · have e_q : q = q2 := (nI_eq (by omega) (by omega)).mp hdd2
      subst e_q
      have e_n : n = n2 := (nI_eq (by omega) (by omega)).mp hk4
      subst e_n
      rw [hs2] at hs; have := (nI_leI (by decide) (by omega)).mp hs; omega
  · subst hdd hk3 hy
    refine k1 _ _ (fs_in hC1 hm) (fun Q2 k2 => ?_)
    refine m_taken (by omega) hz (MS_in hC1 hm) hSh hK8 (fun hb2 => ?_) (fun q2 n2 hq2 hdd2 hk4 hn2 hs2 => ?_) (fun q2 n2 hq2 hdd2 hk4 hn2 hs2 => ?_) (fun q2 m2 n2 hq2 hdd2 hk4 hn2 hm2 hs2 y2 hy2 => ?_)
    · exact absurd hb2 (by rw [inR_in (hi := 5) (n := q) (by decide) (by omega), inR_in (hi := 7) (n := n) (by decide) (by omega)]; decide)
    · have e_q : q = q2 := (nI_eq (by omega) (by omega)).mp hdd2
      subst e_q
      have e_n : n = n2 := (nI_eq (by omega) (by omega)).mp hk4
      subst e_n
      rw [hs] at hs2; exact absurd hs2 (nI_nn (by omega))
    · have e_q : q = q2 := (nI_eq (by omega) (by omega)).mp hdd2
      subst e_q
      have e_n : n = n2 := (nI_eq (by omega) (by omega)).mp hk4
      subst e_n
      rw [hs] at hs2; have := (nI_leI (by decide) (by omega)).mp hs2; omega
    · have e_q : q = q2 := (nI_eq (by omega) (by omega)).mp hdd2
      subst e_q
      have e_n : n = n2 := (nI_eq (by omega) (by omega)).mp hk4
      subst e_n
      have e_m : m = m2 := (nI_eq (by omega) (by omega)).mp (hs.symm.trans hs2)
      subst e_m hy2
      have hM := MS_in hC1 hm
      exact k2 _ _ _ _ _ _ _ _ (by omega) (LI_mk hC1 hM ho)
set_option maxHeartbeats 4000000 in
theorem bo_judge {G : Cx} {d c : Nat} {h : List va_E} {b : MB} {v : Cv} {F : Lf} {p : MP} {t : MT} {o : MO} {Qc : Option Value → List va_E → Prop} {dd : Int32} (hd : 100 ≤ d) (hz : gz G = false) (hc9 : c + 1 < 100000) (I : LI G h b v F c p t o) (k1 : ∀ (y : Int32) h1, (∃ fs, h1[80]? = some (.inr (12, fs))) → (∀ Q2 : Option Value → List va_E → Prop, (∀ h2 b2 v2 F2 c2 p2 t2 o2, c2 ≤ c + 1 → LI G h2 b2 v2 F2 c2 p2 t2 o2 → Q2 (some (.int y)) h2) → AM G yX12_judge cX12_judge 2 (some .int) d 0 0 [.ref (gB G + 80), .int (dd)] h1 Q2) → Qc (some (.int y)) h1) : AM G yX11_judge cX11_judge 3 (some .int) d 0 0 [.ref (gB G + 0), .int (dd)] h Qc := by
  have hC := I.1
  have hm := I.2.1
  have ho := I.2.2
  have hbv : BV (b, p, t, o) v := hC.bv
  have hok := hC.ok
  have hL := hC.2.1.2.1
  have hH := hC.2.1.2.2.1
  have hSh := hC.2.1.2.2.2.1
  have hK8 := hC.2.1.2.2.2.2.1
  have hR9 := hC.2.1.2.2.2.2.2.1
  have hT := hC.2.1.2.2.2.2.2.2.1
  have h255 := hC.2.1.2.2.2.2.2.2.2
  have hBs := hSh.1
  refine p_judge (by omega) hz hC (fun hb hC1 => ?_) (fun q hq hdd hs h1 hC1 => ?_)
  · refine k1 _ _ (fs_in hC1 hm) (fun Q2 k2 => ?_)
    refine m_judge (by omega) hz (MS_in hC1 hm) hbv hok hL hSh (fun hb2 => ?_) (fun q2 hq2 hdd2 hs2 h2 p2 t2 hM => ?_)
    · have hM := MS_in hC1 hm
      exact k2 _ _ _ _ _ _ _ _ (by omega) (LI_mk hC1 hM ho)
    · subst hdd2
      exact absurd hb (lg_53 hq2 hs2)
  · subst hdd
    refine k1 _ _ (fs_in hC1 hm) (fun Q2 k2 => ?_)
    refine m_judge (by omega) hz (MS_in hC1 hm) hbv hok hL hSh (fun hb2 => ?_) (fun q2 hq2 hdd2 hs2 h2 p2 t2 hM => ?_)
    · exact absurd hb2 (lg_53 hq hs)
    · have e_q : q = q2 := (nI_eq (by omega) (by omega)).mp hdd2
      subst e_q
      exact k2 _ _ _ _ _ _ _ _ (by omega) (LI_mk hC1 hM ho)
set_option maxHeartbeats 4000000 in
theorem bo_draughts {G : Cx} {d c : Nat} {h : List va_E} {b : MB} {v : Cv} {F : Lf} {p : MP} {t : MT} {o : MO} {Qc : Option Value → List va_E → Prop} {dd r w : Int32} (hd : 100 ≤ d) (hz : gz G = false) (hc9 : c + 1 < 100000) (I : LI G h b v F c p t o) (k1 : ∀ (y : Int32) h1, (∃ fs, h1[80]? = some (.inr (12, fs))) → (∀ Q2 : Option Value → List va_E → Prop, (∀ h2 b2 v2 F2 c2 p2 t2 o2, c2 ≤ c + 1 → LI G h2 b2 v2 F2 c2 p2 t2 o2 → Q2 (some (.int y)) h2) → AM G yX12_draughts cX12_draughts 4 (some .int) d 0 0 [.ref (gB G + 80), .int (dd), .int (r), .int (w)] h1 Q2) → Qc (some (.int y)) h1) : AM G yX11_draughts cX11_draughts 5 (some .int) d 0 0 [.ref (gB G + 0), .int (dd), .int (r), .int (w)] h Qc := by
  have hC := I.1
  have hm := I.2.1
  have ho := I.2.2
  have hbv : BV (b, p, t, o) v := hC.bv
  have hok := hC.ok
  have hL := hC.2.1.2.1
  have hH := hC.2.1.2.2.1
  have hSh := hC.2.1.2.2.2.1
  have hK8 := hC.2.1.2.2.2.2.1
  have hR9 := hC.2.1.2.2.2.2.2.1
  have hT := hC.2.1.2.2.2.2.2.2.1
  have h255 := hC.2.1.2.2.2.2.2.2.2
  have hBs := hSh.1
  refine p_draughts (by omega) hz hC (fun hb hC1 => ?_) (fun hb hb1 hC1 => ?_) (fun q n m hq hdd hn hr hw hm1 hs h1 hC1 => ?_)
  · refine k1 _ _ (fs_in hC1 hm) (fun Q2 k2 => ?_)
    refine m_draughts (by omega) hz (MS_in hC1 hm) hbv hok hL hSh (fun hb2 => ?_) (fun hb2 hb3 => ?_) (fun q2 n2 m2 hq2 hdd2 hn2 hr2 hw2 hm2 hs2 h2 p2 t2 hM => ?_)
    · have hM := MS_in hC1 hm
      exact k2 _ _ _ _ _ _ _ _ (by omega) (LI_mk hC1 hM ho)
    · rw [Bool.and_eq_true_iff] at hb2
      rw [hb] at hb2
      exact absurd hb2.2 (by decide)
    · subst hr2 hw2
      exact absurd hb (by rw [inR_in (hi := 35) (n := n2) (by decide) (by omega), inR_in (hi := 1) (n := m2) (by decide) (by omega)]; decide)
  · refine k1 _ _ (fs_in hC1 hm) (fun Q2 k2 => ?_)
    refine m_draughts (by omega) hz (MS_in hC1 hm) hbv hok hL hSh (fun hb2 => ?_) (fun hb2 hb3 => ?_) (fun q2 n2 m2 hq2 hdd2 hn2 hr2 hw2 hm2 hs2 h2 p2 t2 hM => ?_)
    · rcases Bool.and_eq_false_iff.mp hb2 with z | z
      · rw [lg_bad z] at k2
        have hM := MS_in hC1 hm
        exact k2 _ _ _ _ _ _ _ _ (by omega) (LI_mk hC1 hM ho)
      · rw [hb] at z; cases z
    · have hM := MS_in hC1 hm
      exact k2 _ _ _ _ _ _ _ _ (by omega) (LI_mk hC1 hM ho)
    · subst hdd2
      exact absurd hb1 (lg_53 hq2 hs2)
  · subst hdd hr hw
    refine k1 _ _ (fs_in hC1 hm) (fun Q2 k2 => ?_)
    refine m_draughts (by omega) hz (MS_in hC1 hm) hbv hok hL hSh (fun hb2 => ?_) (fun hb2 hb3 => ?_) (fun q2 n2 m2 hq2 hdd2 hn2 hr2 hw2 hm2 hs2 h2 p2 t2 hM => ?_)
    · exact absurd hb2 (by rw [inR_in (hi := 5) (n := q) (by decide) (by omega), inR_in (hi := 35) (n := n) (by decide) (by omega), inR_in (hi := 1) (n := m) (by decide) (by omega)]; decide)
    · exact absurd hb3 (lg_53 hq hs)
    · have e_q : q = q2 := (nI_eq (by omega) (by omega)).mp hdd2
      subst e_q
      have e_n : n = n2 := (nI_eq (by omega) (by omega)).mp hr2
      subst e_n
      have e_m : m = m2 := (nI_eq (by omega) (by omega)).mp hw2
      subst e_m
      exact k2 _ _ _ _ _ _ _ _ (by omega) (LI_mk hC1 hM ho)
set_option maxHeartbeats 4000000 in
theorem bo_holds {G : Cx} {d c : Nat} {h : List va_E} {b : MB} {v : Cv} {F : Lf} {p : MP} {t : MT} {o : MO} {Qc : Option Value → List va_E → Prop} {dd w : Int32} (hd : 100 ≤ d) (hz : gz G = false) (hc9 : c + 1 < 100000) (I : LI G h b v F c p t o) (k1 : ∀ (y : Int32) h1, (∃ fs, h1[80]? = some (.inr (12, fs))) → (∀ Q2 : Option Value → List va_E → Prop, (∀ h2 b2 v2 F2 c2 p2 t2 o2, c2 ≤ c + 1 → LI G h2 b2 v2 F2 c2 p2 t2 o2 → Q2 (some (.int y)) h2) → AM G yX12_holds cX12_holds 3 (some .int) d 0 0 [.ref (gB G + 80), .int (dd), .int (w)] h1 Q2) → Qc (some (.int y)) h1) : AM G yX11_holds cX11_holds 4 (some .int) d 0 0 [.ref (gB G + 0), .int (dd), .int (w)] h Qc := by
  have hC := I.1
  have hm := I.2.1
  have ho := I.2.2
  have hbv : BV (b, p, t, o) v := hC.bv
  have hok := hC.ok
  have hL := hC.2.1.2.1
  have hH := hC.2.1.2.2.1
  have hSh := hC.2.1.2.2.2.1
  have hK8 := hC.2.1.2.2.2.2.1
  have hR9 := hC.2.1.2.2.2.2.2.1
  have hT := hC.2.1.2.2.2.2.2.2.1
  have h255 := hC.2.1.2.2.2.2.2.2.2
  have hBs := hSh.1
  refine p_holds (by omega) hz hC (fun hb hC1 => ?_) (fun hb hb1 hC1 => ?_) (fun q m hq hdd hw hm1 hs h1 hC1 => ?_)
  · refine k1 _ _ (fs_in hC1 hm) (fun Q2 k2 => ?_)
    refine m_holds (by omega) hz (MS_in hC1 hm) hbv hok hL hSh (fun hb2 => ?_) (fun hb2 hb3 => ?_) (fun q2 m2 hq2 hdd2 hw2 hm2 hs2 h2 p2 t2 hM => ?_)
    · have hM := MS_in hC1 hm
      exact k2 _ _ _ _ _ _ _ _ (by omega) (LI_mk hC1 hM ho)
    · rw [Bool.and_eq_true_iff] at hb2
      rw [hb] at hb2
      exact absurd hb2.2 (by decide)
    · subst hw2
      exact absurd hb (by rw [inR_in (hi := 1) (n := m2) (by decide) (by omega)]; decide)
  · refine k1 _ _ (fs_in hC1 hm) (fun Q2 k2 => ?_)
    refine m_holds (by omega) hz (MS_in hC1 hm) hbv hok hL hSh (fun hb2 => ?_) (fun hb2 hb3 => ?_) (fun q2 m2 hq2 hdd2 hw2 hm2 hs2 h2 p2 t2 hM => ?_)
    · rcases Bool.and_eq_false_iff.mp hb2 with z | z
      · rw [lg_bad z] at k2
        have hM := MS_in hC1 hm
        exact k2 _ _ _ _ _ _ _ _ (by omega) (LI_mk hC1 hM ho)
      · rw [hb] at z; cases z
    · have hM := MS_in hC1 hm
      exact k2 _ _ _ _ _ _ _ _ (by omega) (LI_mk hC1 hM ho)
    · subst hdd2
      exact absurd hb1 (lg_53 hq2 hs2)
  · subst hdd hw
    refine k1 _ _ (fs_in hC1 hm) (fun Q2 k2 => ?_)
    refine m_holds (by omega) hz (MS_in hC1 hm) hbv hok hL hSh (fun hb2 => ?_) (fun hb2 hb3 => ?_) (fun q2 m2 hq2 hdd2 hw2 hm2 hs2 h2 p2 t2 hM => ?_)
    · exact absurd hb2 (by rw [inR_in (hi := 5) (n := q) (by decide) (by omega), inR_in (hi := 1) (n := m) (by decide) (by omega)]; decide)
    · exact absurd hb3 (lg_53 hq hs)
    · have e_q : q = q2 := (nI_eq (by omega) (by omega)).mp hdd2
      subst e_q
      have e_m : m = m2 := (nI_eq (by omega) (by omega)).mp hw2
      subst e_m
      exact k2 _ _ _ _ _ _ _ _ (by omega) (LI_mk hC1 hM ho)
set_option maxHeartbeats 4000000 in
theorem bo_of {G : Cx} {d c : Nat} {h : List va_E} {b : MB} {v : Cv} {F : Lf} {p : MP} {t : MT} {o : MO} {Qc : Option Value → List va_E → Prop} {n w : Int32} (hd : 100 ≤ d) (hz : gz G = false) (hc9 : c + 1 < 100000) (I : LI G h b v F c p t o) (k1 : ∀ (y : Int32) h1, (∃ fs, h1[80]? = some (.inr (12, fs))) → (∀ Q2 : Option Value → List va_E → Prop, (∀ h2 b2 v2 F2 c2 p2 t2 o2, c2 ≤ c + 1 → LI G h2 b2 v2 F2 c2 p2 t2 o2 → Q2 (some (.int y)) h2) → AM G yX12_of cX12_of 4 (some .int) d 0 0 [.ref (gB G + 80), .int (n), .int (w)] h1 Q2) → Qc (some (.int y)) h1) : AM G yX11_of cX11_of 3 (some .int) d 0 0 [.ref (gB G + 0), .int (n), .int (w)] h Qc := by
  have hC := I.1
  have hm := I.2.1
  have ho := I.2.2
  have hbv : BV (b, p, t, o) v := hC.bv
  have hok := hC.ok
  have hL := hC.2.1.2.1
  have hH := hC.2.1.2.2.1
  have hSh := hC.2.1.2.2.2.1
  have hK8 := hC.2.1.2.2.2.2.1
  have hR9 := hC.2.1.2.2.2.2.2.1
  have hT := hC.2.1.2.2.2.2.2.2.1
  have h255 := hC.2.1.2.2.2.2.2.2.2
  have hBs := hSh.1
  refine p_of (by omega) hz hC (fun hb hC1 => ?_) (fun wh hw hC1 => ?_) (fun m hw hw7 hm1 hn hC1 => ?_)
  · refine k1 _ _ (fs_in hC1 hm) (fun Q2 k2 => ?_)
    refine m_of (by omega) hz (MS_in hC1 hm) hbv hok (fun hb2 => ?_) (fun wh2 hw2 => ?_) (fun m2 hw2 hw8 hm2 hn2 => ?_)
    · have hM := MS_in hC1 hm
      exact k2 _ _ _ _ _ _ _ _ (by omega) (LI_mk hC1 hM ho)
    · rcases hb with z | z
      · rw [z.1] at hw2; cases hw2
      · rw [z.1] at hw2; cases hw2
    · subst hn2
      rcases hb with z | z
      · exact absurd hw8 z.2
      · rw [inR_in (hi := 35) (n := m2) (by decide) (by omega)] at z; cases z.2
  · refine k1 _ _ (fs_in hC1 hm) (fun Q2 k2 => ?_)
    refine m_of (by omega) hz (MS_in hC1 hm) hbv hok (fun hb2 => ?_) (fun wh2 hw2 => ?_) (fun m2 hw2 hw8 hm2 hn2 => ?_)
    · rcases hb2 with z | z
      · rw [z.1] at hw; cases hw
      · rw [z.1] at hw; cases hw
    · rw [hw] at hw2; cases hw2
      have hM := MS_in hC1 hm
      exact k2 _ _ _ _ _ _ _ _ (by omega) (LI_mk hC1 hM ho)
    · rw [hw] at hw2; cases hw2
  · subst hw7 hn
    refine k1 _ _ (fs_in hC1 hm) (fun Q2 k2 => ?_)
    refine m_of (by omega) hz (MS_in hC1 hm) hbv hok (fun hb2 => ?_) (fun wh2 hw2 => ?_) (fun m2 hw2 hw8 hm2 hn2 => ?_)
    · rcases hb2 with z | z
      · exact absurd rfl z.2
      · rw [inR_in (hi := 35) (n := m) (by decide) (by omega)] at z; cases z.2
    · rw [hw] at hw2; cases hw2
    · have e_m : m = m2 := (nI_eq (by omega) (by omega)).mp hn2
      subst e_m
      have hM := MS_in hC1 hm
      exact k2 _ _ _ _ _ _ _ _ (by omega) (LI_mk hC1 hM ho)
set_option maxHeartbeats 4000000 in
theorem bo_law {G : Cx} {d c : Nat} {h : List va_E} {b : MB} {v : Cv} {F : Lf} {p : MP} {t : MT} {o : MO} {Qc : Option Value → List va_E → Prop} (hd : 100 ≤ d) (hz : gz G = false) (hc9 : c + 1 < 100000) (I : LI G h b v F c p t o) (k1 : ∀ (y : Int32) h1, (∃ fs, h1[80]? = some (.inr (12, fs))) → (∀ Q2 : Option Value → List va_E → Prop, (∀ h2 b2 v2 F2 c2 p2 t2 o2, c2 ≤ c + 1 → LI G h2 b2 v2 F2 c2 p2 t2 o2 → Q2 (some (.int y)) h2) → AM G yX12_law cX12_law 4 (some .int) d 0 0 [.ref (gB G + 80)] h1 Q2) → Qc (some (.int y)) h1) : AM G yX11_law cX11_law 2 (some .int) d 0 0 [.ref (gB G + 0)] h Qc := by
  have hC := I.1
  have hm := I.2.1
  have ho := I.2.2
  have hbv : BV (b, p, t, o) v := hC.bv
  have hok := hC.ok
  have hL := hC.2.1.2.1
  have hH := hC.2.1.2.2.1
  have hSh := hC.2.1.2.2.2.1
  have hK8 := hC.2.1.2.2.2.2.1
  have hR9 := hC.2.1.2.2.2.2.2.1
  have hT := hC.2.1.2.2.2.2.2.2.1
  have h255 := hC.2.1.2.2.2.2.2.2.2
  have hBs := hSh.1
  refine p_law (by omega) hz hC rfl hc9 (fun f hf hle h1 hC1 => ?_) (fun A hA h1 hF => ?_)
  · refine k1 _ _ (fs_in hC1 hm) (fun Q2 k2 => ?_)
    refine m_law (by omega) hz (MS_in hC1 hm) rfl hT h255 (fun f2 hf2 hle2 h2 p2 hM => ?_) (fun A2 hA2 f f1 h2 p2 hM => ?_)
    · rw [hf] at hf2; cases hf2
      exact k2 _ _ _ _ _ _ _ _ (by omega) (LI_mk hC1 hM ho)
    · rw [hf] at hA2; cases hA2
  · have hC1 := hF (gTape b) (fun _ _ => rfl)
    refine k1 _ _ (fs_in hC1 hm) (fun Q2 k2 => ?_)
    refine m_law (by omega) hz (MS_in hC1 hm) rfl hT h255 (fun f2 hf2 hle2 h2 p2 hM => ?_) (fun A2 hA2 f f1 h2 p2 hM => ?_)
    · rw [hA] at hf2; cases hf2
    · rw [hA] at hA2; cases hA2
      have hC1 := hF f f1
      exact k2 _ _ _ _ _ _ _ _ (by omega) (LI_mk hC1 hM ho)
set_option maxHeartbeats 4000000 in
theorem bo_rooms {G : Cx} {d c : Nat} {h : List va_E} {b : MB} {v : Cv} {F : Lf} {p : MP} {t : MT} {o : MO} {Qc : Option Value → List va_E → Prop} {dd ii nn : Int32} (hd : 100 ≤ d) (hz : gz G = false) (hc9 : c + 1 < 100000) (I : LI G h b v F c p t o) (k1 : ∀ (y : Int32) h1, (∃ fs, h1[80]? = some (.inr (12, fs))) → (∀ Q2 : Option Value → List va_E → Prop, (∀ h2 b2 v2 F2 c2 p2 t2 o2, c2 ≤ c + 1 → LI G h2 b2 v2 F2 c2 p2 t2 o2 → Q2 (some (.int y)) h2) → AM G yX12_rooms cX12_rooms 7 (some .int) d 0 0 [.ref (gB G + 80), .int (dd), .int (ii), .int (nn)] h1 Q2) → Qc (some (.int y)) h1) : AM G yX11_rooms cX11_rooms 6 (some .int) d 0 0 [.ref (gB G + 0), .int (dd), .int (ii), .int (nn)] h Qc := by
  have hC := I.1
  have hm := I.2.1
  have ho := I.2.2
  have hbv : BV (b, p, t, o) v := hC.bv
  have hok := hC.ok
  have hL := hC.2.1.2.1
  have hH := hC.2.1.2.2.1
  have hSh := hC.2.1.2.2.2.1
  have hK8 := hC.2.1.2.2.2.2.1
  have hR9 := hC.2.1.2.2.2.2.2.1
  have hT := hC.2.1.2.2.2.2.2.2.1
  have h255 := hC.2.1.2.2.2.2.2.2.2
  have hBs := hSh.1
  refine p_rooms (by omega) hz hC (fun hb hC1 => ?_) (fun q hq hdd hnn hs1 hs2 hC1 => ?_) (fun q m hq hdd hnn hm1 hm2 hs h1 v1 f y hf hC1 => ?_)
  · refine k1 _ _ (fs_in hC1 hm) (fun Q2 k2 => ?_)
    refine m_rooms (by omega) hz (MS_in hC1 hm) hSh (fun hb2 => ?_) (fun q2 hq2 hdd2 hnn2 hs3 hs4 => ?_) (fun q2 m2 hq2 hdd2 hnn2 hm3 hm4 hs3 h2 f2 y2 hf2 hM => ?_)
    · have hM := MS_in hC1 hm
      exact k2 _ _ _ _ _ _ _ _ (by omega) (LI_mk hC1 hM ho)
    · subst hdd2
      obtain ⟨m2, rfl, hm3, hm4⟩ := hnn2
      exact absurd hb (by rw [inR_in (hi := 5) (n := q2) (by decide) (by omega), inR_in1 (hi := 20) (n := m2) (by decide) (by omega) (by omega)]; decide)
    · subst hdd2 hnn2
      exact absurd hb (by rw [inR_in (hi := 5) (n := q2) (by decide) (by omega), inR_in1 (hi := 20) (n := m2) (by decide) (by omega) (by omega)]; decide)
  · subst hdd
    obtain ⟨m, rfl, hm1, hm2⟩ := hnn
    refine k1 _ _ (fs_in hC1 hm) (fun Q2 k2 => ?_)
    refine m_rooms (by omega) hz (MS_in hC1 hm) hSh (fun hb2 => ?_) (fun q2 hq2 hdd2 hnn2 hs3 hs4 => ?_) (fun q2 m2 hq2 hdd2 hnn2 hm3 hm4 hs3 h2 f2 y2 hf2 hM => ?_)
    · exact absurd hb2 (by rw [inR_in (hi := 5) (n := q) (by decide) (by omega), inR_in1 (hi := 20) (n := m) (by decide) (by omega) (by omega)]; decide)
    · have hM := MS_in hC1 hm
      exact k2 _ _ _ _ _ _ _ _ (by omega) (LI_mk hC1 hM ho)
    · have e_q : q = q2 := (nI_eq (by omega) (by omega)).mp hdd2
      subst e_q
      exact absurd hs3 (fun z => z.elim hs1 hs2)
  · subst hdd hnn
    refine k1 _ _ (fs_in hC1 hm) (fun Q2 k2 => ?_)
    refine m_rooms (by omega) hz (MS_in hC1 hm) hSh (fun hb2 => ?_) (fun q2 hq2 hdd2 hnn2 hs3 hs4 => ?_) (fun q2 m2 hq2 hdd2 hnn2 hm3 hm4 hs3 h2 f2 y2 hf2 hM => ?_)
    · exact absurd hb2 (by rw [inR_in (hi := 5) (n := q) (by decide) (by omega), inR_in1 (hi := 20) (n := m) (by decide) (by omega) (by omega)]; decide)
    · have e_q : q = q2 := (nI_eq (by omega) (by omega)).mp hdd2
      subst e_q
      exact absurd hs (fun z => z.elim hs3 hs4)
    · have e_q : q = q2 := (nI_eq (by omega) (by omega)).mp hdd2
      subst e_q
      have e_m : m = m2 := (nI_eq (by omega) (by omega)).mp hnn2
      subst e_m
      obtain ⟨e1, e2⟩ := Prod.mk.inj (hf2.trans hf.symm)
      subst e1 e2
      exact k2 _ _ _ _ _ _ _ _ (by omega) (LI_mk hC1 hM ho)
set_option maxHeartbeats 4000000 in
theorem bo_mend {G : Cx} {d c : Nat} {h : List va_E} {b : MB} {v : Cv} {F : Lf} {p : MP} {t : MT} {o : MO} {Qc : Option Value → List va_E → Prop} {n w y9 : Int32} (hd : 100 ≤ d) (hz : gz G = false) (hc9 : c + 1 < 100000) (I : LI G h b v F c p t o) (k1 : ∀ (y : Int32) h1, (∃ fs, h1[80]? = some (.inr (12, fs))) → (∀ Q2 : Option Value → List va_E → Prop, (∀ h2 b2 v2 F2 c2 p2 t2 o2, c2 ≤ c + 1 → LI G h2 b2 v2 F2 c2 p2 t2 o2 → Q2 (some (.int y)) h2) → AM G yX12_mend cX12_mend 5 (some .int) d 0 0 [.ref (gB G + 80), .int (n), .int (w), .int (y9)] h1 Q2) → Qc (some (.int y)) h1) : AM G yX11_mend cX11_mend 5 (some .int) d 0 0 [.ref (gB G + 0), .int (n), .int (w), .int (y9)] h Qc := by
  have hC := I.1
  have hm := I.2.1
  have ho := I.2.2
  have hbv : BV (b, p, t, o) v := hC.bv
  have hok := hC.ok
  have hL := hC.2.1.2.1
  have hH := hC.2.1.2.2.1
  have hSh := hC.2.1.2.2.2.1
  have hK8 := hC.2.1.2.2.2.2.1
  have hR9 := hC.2.1.2.2.2.2.2.1
  have hT := hC.2.1.2.2.2.2.2.2.1
  have h255 := hC.2.1.2.2.2.2.2.2.2
  have hBs := hSh.1
  refine p_mend (by omega) hz hC (fun hb hC1 => ?_) (fun wh k x hwh hk6 hw hmy hy hx ha hC1 => ?_) (fun wh k x hwh hk6 hw hmy hy hx ha hg h1 v1 hC1 => ?_) (fun wh k x hwh hk6 hw hmy hy hx ha hg h1 v1 hF => ?_)
  · refine k1 _ _ (fs_in hC1 hm) (fun Q2 k2 => ?_)
    refine m_mend (by omega) hz (MS_in hC1 hm) hH (fun i hi => by have := BVb_lt hC.bv hok hi; omega) (fun hb2 => ?_) (fun wh2 k3 x2 hwh2 hk7 hw2 hmy2 hy2 hx2 ha2 => ?_) (fun wh2 k3 x2 hwh2 hk7 hw2 hmy2 hy2 hx2 ha2 hg2 h2 hM => ?_) (fun wh2 k3 x2 hwh2 hk7 hw2 hmy2 hy2 hx2 ha2 hg2 A W J f1 f2 f3 h2 hM => ?_)
    · have hM := MS_in hC1 hm
      exact k2 _ _ _ _ _ _ _ _ (by omega) (LI_mk hC1 hM ho)
    · rcases hb with z | ⟨x7, k7, z1, z2, z3, z4⟩
      · rw [z] at hwh2; cases hwh2
      · have e7 : k7 = k3 := (nI_eq (by omega) (by omega)).mp (z3.symm.trans hw2)
        subst e7
        rw [z4] at hmy2; cases hmy2
    · rcases hb with z | ⟨x7, k7, z1, z2, z3, z4⟩
      · rw [z] at hwh2; cases hwh2
      · have e7 : k7 = k3 := (nI_eq (by omega) (by omega)).mp (z3.symm.trans hw2)
        subst e7
        rw [z4] at hmy2; cases hmy2
    · rcases hb with z | ⟨x7, k7, z1, z2, z3, z4⟩
      · rw [z] at hwh2; cases hwh2
      · have e7 : k7 = k3 := (nI_eq (by omega) (by omega)).mp (z3.symm.trans hw2)
        subst e7
        rw [z4] at hmy2; cases hmy2
  · subst hy
    refine k1 _ _ (fs_in hC1 hm) (fun Q2 k2 => ?_)
    refine m_mend (by omega) hz (MS_in hC1 hm) hH (fun i hi => by have := BVb_lt hC.bv hok hi; omega) (fun hb2 => ?_) (fun wh2 k3 x2 hwh2 hk7 hw2 hmy2 hy2 hx2 ha2 => ?_) (fun wh2 k3 x2 hwh2 hk7 hw2 hmy2 hy2 hx2 ha2 hg2 h2 hM => ?_) (fun wh2 k3 x2 hwh2 hk7 hw2 hmy2 hy2 hx2 ha2 hg2 A W J f1 f2 f3 h2 hM => ?_)
    · rcases hb2 with z | ⟨x7, k7, z1, z2, z3, z4⟩
      · rw [z] at hwh; cases hwh
      · have e7 : k7 = k := (nI_eq (by omega) (by omega)).mp (z3.symm.trans hw)
        subst e7
        rw [z4] at hmy; cases hmy
    · rw [hwh] at hwh2; cases hwh2
      have e_k : k = k3 := (nI_eq (by omega) (by omega)).mp (hw.symm.trans hw2)
      subst e_k
      have e_x : x = x2 := (nI_eq (by omega) (by omega)).mp hy2
      subst e_x
      have hM := MS_in hC1 hm
      exact k2 _ _ _ _ _ _ _ _ (by omega) (LI_mk hC1 hM ho)
    · rw [hwh] at hwh2; cases hwh2
      have e_k : k = k3 := (nI_eq (by omega) (by omega)).mp (hw.symm.trans hw2)
      subst e_k
      have e_x : x = x2 := (nI_eq (by omega) (by omega)).mp hy2
      subst e_x
      exact absurd ha ha2
    · rw [hwh] at hwh2; cases hwh2
      have e_k : k = k3 := (nI_eq (by omega) (by omega)).mp (hw.symm.trans hw2)
      subst e_k
      have e_x : x = x2 := (nI_eq (by omega) (by omega)).mp hy2
      subst e_x
      exact absurd ha ha2
  · subst hy
    refine k1 _ _ (fs_in hC1 hm) (fun Q2 k2 => ?_)
    refine m_mend (by omega) hz (MS_in hC1 hm) hH (fun i hi => by have := BVb_lt hC.bv hok hi; omega) (fun hb2 => ?_) (fun wh2 k3 x2 hwh2 hk7 hw2 hmy2 hy2 hx2 ha2 => ?_) (fun wh2 k3 x2 hwh2 hk7 hw2 hmy2 hy2 hx2 ha2 hg2 h2 hM => ?_) (fun wh2 k3 x2 hwh2 hk7 hw2 hmy2 hy2 hx2 ha2 hg2 A W J f1 f2 f3 h2 hM => ?_)
    · rcases hb2 with z | ⟨x7, k7, z1, z2, z3, z4⟩
      · rw [z] at hwh; cases hwh
      · have e7 : k7 = k := (nI_eq (by omega) (by omega)).mp (z3.symm.trans hw)
        subst e7
        rw [z4] at hmy; cases hmy
    · rw [hwh] at hwh2; cases hwh2
      have e_k : k = k3 := (nI_eq (by omega) (by omega)).mp (hw.symm.trans hw2)
      subst e_k
      have e_x : x = x2 := (nI_eq (by omega) (by omega)).mp hy2
      subst e_x
      exact absurd ha2 ha
    · rw [hwh] at hwh2; cases hwh2
      have e_k : k = k3 := (nI_eq (by omega) (by omega)).mp (hw.symm.trans hw2)
      subst e_k
      have e_x : x = x2 := (nI_eq (by omega) (by omega)).mp hy2
      subst e_x
      exact k2 _ _ _ _ _ _ _ _ (by omega) (LI_mk hC1 hM ho)
    · rw [hwh] at hwh2; cases hwh2
      have e_k : k = k3 := (nI_eq (by omega) (by omega)).mp (hw.symm.trans hw2)
      subst e_k
      have e_x : x = x2 := (nI_eq (by omega) (by omega)).mp hy2
      subst e_x
      exact absurd hg2 hg
  · subst hy
    have hC1 := hF (fun j => gChangeAt b (j + 1)) (fun j => gChangeWas b (j + 1)) (fun j => gChangeIs b (j + 1)) (fun _ _ => rfl) (fun _ _ => rfl) (fun _ _ => rfl)
    refine k1 _ _ (fs_in hC1 hm) (fun Q2 k2 => ?_)
    refine m_mend (by omega) hz (MS_in hC1 hm) hH (fun i hi => by have := BVb_lt hC.bv hok hi; omega) (fun hb2 => ?_) (fun wh2 k3 x2 hwh2 hk7 hw2 hmy2 hy2 hx2 ha2 => ?_) (fun wh2 k3 x2 hwh2 hk7 hw2 hmy2 hy2 hx2 ha2 hg2 h2 hM => ?_) (fun wh2 k3 x2 hwh2 hk7 hw2 hmy2 hy2 hx2 ha2 hg2 A W J f1 f2 f3 h2 hM => ?_)
    · rcases hb2 with z | ⟨x7, k7, z1, z2, z3, z4⟩
      · rw [z] at hwh; cases hwh
      · have e7 : k7 = k := (nI_eq (by omega) (by omega)).mp (z3.symm.trans hw)
        subst e7
        rw [z4] at hmy; cases hmy
    · rw [hwh] at hwh2; cases hwh2
      have e_k : k = k3 := (nI_eq (by omega) (by omega)).mp (hw.symm.trans hw2)
      subst e_k
      have e_x : x = x2 := (nI_eq (by omega) (by omega)).mp hy2
      subst e_x
      exact absurd ha2 ha
    · rw [hwh] at hwh2; cases hwh2
      have e_k : k = k3 := (nI_eq (by omega) (by omega)).mp (hw.symm.trans hw2)
      subst e_k
      have e_x : x = x2 := (nI_eq (by omega) (by omega)).mp hy2
      subst e_x
      exact absurd hg hg2
    · rw [hwh] at hwh2; cases hwh2
      have e_k : k = k3 := (nI_eq (by omega) (by omega)).mp (hw.symm.trans hw2)
      subst e_k
      have e_x : x = x2 := (nI_eq (by omega) (by omega)).mp hy2
      subst e_x
      have hC1 := hF A W J f1 f2 f3
      exact k2 _ _ _ _ _ _ _ _ (by omega) (LI_mk hC1 hM ho)
