/-! HISTORY: 57, its rows 58 to 61, and the city that is now (1) -/
theorem pnX1 : plainName RX1 = true := by decide
abbrev Hk : Type := ((Nat → Nat) × (Nat → Nat) × (Nat → Nat) × (Nat → Nat)) × Nat × Nat
def HQ (G : Cx) (h0 h : List va_E) (v : Cv) (K : Hk) : Prop := h.length = h0.length ∧ (∀ k, (k = 0 ∨ (3 < k ∧ k < 57) ∨ 61 < k) → h[k]? = h0[k]?) ∧ cityAt G h 1 v ∧ h[57]? = some (.inr (1, [.ref (gB G + 1), .ref (gB G + 58), .ref (gB G + 59), .ref (gB G + 60), .ref (gB G + 61), .int (nI K.2.1), .int (nI K.2.2)])) ∧ h[58]? = some (ints G 40 K.1.1) ∧ h[59]? = some (ints G 40 K.1.2.1) ∧ h[60]? = some (ints G 40 K.1.2.2.1) ∧ h[61]? = some (ints G 40 K.1.2.2.2)
def shl (f : Nat → Nat) : Nat → Nat := fun j => if j < 39 then f (j + 1) else f j
theorem cpy_shl (f : Nat → Nat) : va_cpy (fun j => nI (f j)) (fun j => nI (f j)) 1 0 39 = fun j => nI (shl f j) := by
  funext j
  unfold va_cpy shl
  by_cases e : j < 39
  · rw [if_pos ⟨Nat.zero_le _, by omega⟩, if_pos e, Nat.sub_zero, Nat.add_comm]
  · rw [if_neg (fun z => e (by omega)), if_neg e]
section HQs
variable {G : Cx} {h0 h : List va_E} {v : Cv} {K : Hk}
theorem HQ.ob (H : HQ G h0 h v K) : h[57]? = some (.inr (1, [.ref (gB G + 1), .ref (gB G + 58), .ref (gB G + 59), .ref (gB G + 60), .ref (gB G + 61), .int (nI K.2.1), .int (nI K.2.2)])) := H.2.2.2.1
theorem HQ.now (H : HQ G h0 h v K) : cityAt G h 1 v := H.2.2.1
theorem HQ.so (H : HQ G h0 h v K) (d a : Nat) : HQ G h0 (h.set 57 (.inr (1, [.ref (gB G + 1), .ref (gB G + 58), .ref (gB G + 59), .ref (gB G + 60), .ref (gB G + 61), .int (nI d), .int (nI a)]))) v (K.1, d, a) :=
  ⟨by rw [List.length_set]; exact H.1, fun k hk => hs_ne (by omega) (H.2.1 k hk), ⟨hs_ne (by decide) H.now.1, hs_ne (by decide) H.now.2.1, hs_ne (by decide) H.now.2.2.1, H.now.2.2.2⟩, hs_eq H.ob, hs_ne (by decide) H.2.2.2.2.1, hs_ne (by decide) H.2.2.2.2.2.1, hs_ne (by decide) H.2.2.2.2.2.2.1, hs_ne (by decide) H.2.2.2.2.2.2.2⟩
theorem HQ.put {v' : Cv} (H : HQ G h0 h v K) (ok : okC v') : HQ G h0 (putC G h 1 v') v' K :=
  ⟨putC_len.trans H.1, fun k hk => (putC_out (by omega)).trans (H.2.1 k hk), putC_at H.now ok, (putC_out (by decide)).trans H.ob, (putC_out (by decide)).trans H.2.2.2.2.1, (putC_out (by decide)).trans H.2.2.2.2.2.1, (putC_out (by decide)).trans H.2.2.2.2.2.2.1, (putC_out (by decide)).trans H.2.2.2.2.2.2.2⟩
end HQs
section HQr
variable {G : Cx} {y : MethodName} {cc : ByteArray} {mL : Nat} {rt : Option FieldType} {R : Room} {Z : List Frame → Array Value → State → State → Prop} {cn sn pc : Nat} {ls : List (Option Value)} {st : List Value} {h h0 : List va_E} {v : Cv} {K : Hk}
theorem yg_11 (hm : HQ G h0 h v K) (ho : y.cls = RX1) (hd : decode cc pc = .ok (.getfield 11, 3)) (kk : AW G y cc mL rt R Z cn sn (pc + 3) ls (.ref (gB G + 58) :: st) h) : AW G y cc mL rt R Z cn sn pc ls (.ref (gB G + 57) :: st) h :=
  gf_X1_11 ho hd hm.ob kk
theorem yg_15 (hm : HQ G h0 h v K) (ho : y.cls = RX1) (hd : decode cc pc = .ok (.getfield 15, 3)) (kk : AW G y cc mL rt R Z cn sn (pc + 3) ls (.ref (gB G + 59) :: st) h) : AW G y cc mL rt R Z cn sn pc ls (.ref (gB G + 57) :: st) h :=
  gf_X1_15 ho hd hm.ob kk
theorem yg_18 (hm : HQ G h0 h v K) (ho : y.cls = RX1) (hd : decode cc pc = .ok (.getfield 18, 3)) (kk : AW G y cc mL rt R Z cn sn (pc + 3) ls (.ref (gB G + 60) :: st) h) : AW G y cc mL rt R Z cn sn pc ls (.ref (gB G + 57) :: st) h :=
  gf_X1_18 ho hd hm.ob kk
theorem yg_21 (hm : HQ G h0 h v K) (ho : y.cls = RX1) (hd : decode cc pc = .ok (.getfield 21, 3)) (kk : AW G y cc mL rt R Z cn sn (pc + 3) ls (.ref (gB G + 61) :: st) h) : AW G y cc mL rt R Z cn sn pc ls (.ref (gB G + 57) :: st) h :=
  gf_X1_21 ho hd hm.ob kk
theorem yg_24 (hm : HQ G h0 h v K) (ho : y.cls = RX1) (hd : decode cc pc = .ok (.getfield 24, 3)) (kk : AW G y cc mL rt R Z cn sn (pc + 3) ls (.ref (gB G + 1) :: st) h) : AW G y cc mL rt R Z cn sn pc ls (.ref (gB G + 57) :: st) h :=
  gf_X1_24 ho hd hm.ob kk
theorem yg_28 {x : Nat} (hm : HQ G h0 h v K) (ho : y.cls = RX1) (hd : decode cc pc = .ok (.getfield 28, 3)) (e : K.2.1 = x) (kk : AW G y cc mL rt R Z cn sn (pc + 3) ls (.int (nI x) :: st) h) : AW G y cc mL rt R Z cn sn pc ls (.ref (gB G + 57) :: st) h :=
  gf_X1_28 ho hd hm.ob (by rw [e]; exact kk)
theorem yp_28 {x : Nat} (hm : HQ G h0 h v K) (ho : y.cls = RX1) (hd : decode cc pc = .ok (.putfield 28, 3)) (kk : ∀ h1, HQ G h0 h1 v (K.1, x, K.2.2) → AW G y cc mL rt R Z cn sn (pc + 3) ls st h1) : AW G y cc mL rt R Z cn sn pc ls (.int (nI x) :: .ref (gB G + 57) :: st) h :=
  pf_X1_28 ho hd hm.ob (kk _ (hm.so _ _))
theorem yg_35 {x : Nat} (hm : HQ G h0 h v K) (ho : y.cls = RX1) (hd : decode cc pc = .ok (.getfield 35, 3)) (e : K.2.2 = x) (kk : AW G y cc mL rt R Z cn sn (pc + 3) ls (.int (nI x) :: st) h) : AW G y cc mL rt R Z cn sn pc ls (.ref (gB G + 57) :: st) h :=
  gf_X1_35 ho hd hm.ob (by rw [e]; exact kk)
theorem yp_35 {x : Nat} (hm : HQ G h0 h v K) (ho : y.cls = RX1) (hd : decode cc pc = .ok (.putfield 35, 3)) (kk : ∀ h1, HQ G h0 h1 v (K.1, K.2.1, x) → AW G y cc mL rt R Z cn sn (pc + 3) ls st h1) : AW G y cc mL rt R Z cn sn pc ls (.int (nI x) :: .ref (gB G + 57) :: st) h :=
  pf_X1_35 ho hd hm.ob (kk _ (hm.so _ _))
theorem yl_number {j x : Nat} (hm : HQ G h0 h v K) (hd : decode cc pc = .ok (.iaload, 1)) (hj : j < 40) (e : K.1.1 j = x) (kk : AW G y cc mL rt R Z cn sn (pc + 1) ls (.int (nI x) :: st) h) : AW G y cc mL rt R Z cn sn pc ls (.int (nI j) :: .ref (gB G + 58) :: st) h :=
  b_iald j hd hm.2.2.2.2.1 rfl hj (by decide) (by rw [e]; exact kk)
theorem ys_number {j x : Nat} (hm : HQ G h0 h v K) (hd : decode cc pc = .ok (.iastore, 1)) (hj : j < 40) (kk : ∀ h1, HQ G h0 h1 v ((va_up (K.1.1) j x, K.1.2.1, K.1.2.2.1, K.1.2.2.2), K.2) → AW G y cc mL rt R Z cn sn (pc + 1) ls st h1) : AW G y cc mL rt R Z cn sn pc ls (.int (nI x) :: .int (nI j) :: .ref (gB G + 58) :: st) h := by
  refine b_iast j hd hm.2.2.2.2.1 rfl hj (by decide) ?_
  refine a_h (congrArg (fun e => h.set 58 e) (show _ = (ints G 40 (va_up (K.1.1) j x) : va_E) from ?_)) (kk _ ⟨by rw [List.length_set]; exact hm.1, fun k hk => hs_ne (by omega) (hm.2.1 k hk), ⟨hs_ne (by decide) hm.now.1, hs_ne (by decide) hm.now.2.1, hs_ne (by decide) hm.now.2.2.1, hm.now.2.2.2⟩, hs_ne (by decide) hm.ob, hs_eq hm.2.2.2.2.1, hs_ne (by decide) hm.2.2.2.2.2.1, hs_ne (by decide) hm.2.2.2.2.2.2.1, hs_ne (by decide) hm.2.2.2.2.2.2.2⟩)
  exact congrArg (fun g : Nat → Int32 => (show va_E from .inl (gc G 0, 40, .inl g))) (upd_nI _ _ _)
theorem yc_number {d mc ms : Nat} (hm : HQ G h0 h v K) (ho : y.cls = RX1) (hd : decode cc pc = .ok (.invokestatic 38, 3)) (hW : (st.map fun v => v.category).sum ≤ 3) (kk : ∀ h1, HQ G h0 h1 v ((shl (K.1.1), K.1.2.1, K.1.2.2.1, K.1.2.2.2), K.2) → AW G y cc mL rt (rmx (d + 1) mc ms) Z cn sn (pc + 3) ls st h1) : AW G y cc mL rt (rmx (d + 1) mc ms) Z cn sn pc ls (.int (nI 39) :: .int (nI 0) :: .ref (gB G + 58) :: .int (nI 1) :: .ref (gB G + 58) :: st) h := by
  refine a_copyiR 1 0 39 hd (by rw [ho]; exact w_449) (by decide) (by decide) rfl rfl rfl (by decide) (by decide) hm.2.2.2.2.1 hm.2.2.2.2.1 (by omega) ?_
  refine a_h (congrArg (fun e => h.set 58 e) (show _ = (ints G 40 (shl (K.1.1)) : va_E) from ?_)) (kk _ ⟨by rw [List.length_set]; exact hm.1, fun k hk => hs_ne (by omega) (hm.2.1 k hk), ⟨hs_ne (by decide) hm.now.1, hs_ne (by decide) hm.now.2.1, hs_ne (by decide) hm.now.2.2.1, hm.now.2.2.2⟩, hs_ne (by decide) hm.ob, hs_eq hm.2.2.2.2.1, hs_ne (by decide) hm.2.2.2.2.2.1, hs_ne (by decide) hm.2.2.2.2.2.2.1, hs_ne (by decide) hm.2.2.2.2.2.2.2⟩)
  exact congrArg (fun g : Nat → Int32 => (show va_E from .inl (gc G 0, 40, .inl g))) (cpy_shl _)
theorem yl_what {j x : Nat} (hm : HQ G h0 h v K) (hd : decode cc pc = .ok (.iaload, 1)) (hj : j < 40) (e : K.1.2.1 j = x) (kk : AW G y cc mL rt R Z cn sn (pc + 1) ls (.int (nI x) :: st) h) : AW G y cc mL rt R Z cn sn pc ls (.int (nI j) :: .ref (gB G + 59) :: st) h :=
  b_iald j hd hm.2.2.2.2.2.1 rfl hj (by decide) (by rw [e]; exact kk)
theorem ys_what {j x : Nat} (hm : HQ G h0 h v K) (hd : decode cc pc = .ok (.iastore, 1)) (hj : j < 40) (kk : ∀ h1, HQ G h0 h1 v ((K.1.1, va_up (K.1.2.1) j x, K.1.2.2.1, K.1.2.2.2), K.2) → AW G y cc mL rt R Z cn sn (pc + 1) ls st h1) : AW G y cc mL rt R Z cn sn pc ls (.int (nI x) :: .int (nI j) :: .ref (gB G + 59) :: st) h := by
  refine b_iast j hd hm.2.2.2.2.2.1 rfl hj (by decide) ?_
  refine a_h (congrArg (fun e => h.set 59 e) (show _ = (ints G 40 (va_up (K.1.2.1) j x) : va_E) from ?_)) (kk _ ⟨by rw [List.length_set]; exact hm.1, fun k hk => hs_ne (by omega) (hm.2.1 k hk), ⟨hs_ne (by decide) hm.now.1, hs_ne (by decide) hm.now.2.1, hs_ne (by decide) hm.now.2.2.1, hm.now.2.2.2⟩, hs_ne (by decide) hm.ob, hs_ne (by decide) hm.2.2.2.2.1, hs_eq hm.2.2.2.2.2.1, hs_ne (by decide) hm.2.2.2.2.2.2.1, hs_ne (by decide) hm.2.2.2.2.2.2.2⟩)
  exact congrArg (fun g : Nat → Int32 => (show va_E from .inl (gc G 0, 40, .inl g))) (upd_nI _ _ _)
theorem yc_what {d mc ms : Nat} (hm : HQ G h0 h v K) (ho : y.cls = RX1) (hd : decode cc pc = .ok (.invokestatic 38, 3)) (hW : (st.map fun v => v.category).sum ≤ 3) (kk : ∀ h1, HQ G h0 h1 v ((K.1.1, shl (K.1.2.1), K.1.2.2.1, K.1.2.2.2), K.2) → AW G y cc mL rt (rmx (d + 1) mc ms) Z cn sn (pc + 3) ls st h1) : AW G y cc mL rt (rmx (d + 1) mc ms) Z cn sn pc ls (.int (nI 39) :: .int (nI 0) :: .ref (gB G + 59) :: .int (nI 1) :: .ref (gB G + 59) :: st) h := by
  refine a_copyiR 1 0 39 hd (by rw [ho]; exact w_449) (by decide) (by decide) rfl rfl rfl (by decide) (by decide) hm.2.2.2.2.2.1 hm.2.2.2.2.2.1 (by omega) ?_
  refine a_h (congrArg (fun e => h.set 59 e) (show _ = (ints G 40 (shl (K.1.2.1)) : va_E) from ?_)) (kk _ ⟨by rw [List.length_set]; exact hm.1, fun k hk => hs_ne (by omega) (hm.2.1 k hk), ⟨hs_ne (by decide) hm.now.1, hs_ne (by decide) hm.now.2.1, hs_ne (by decide) hm.now.2.2.1, hm.now.2.2.2⟩, hs_ne (by decide) hm.ob, hs_ne (by decide) hm.2.2.2.2.1, hs_eq hm.2.2.2.2.2.1, hs_ne (by decide) hm.2.2.2.2.2.2.1, hs_ne (by decide) hm.2.2.2.2.2.2.2⟩)
  exact congrArg (fun g : Nat → Int32 => (show va_E from .inl (gc G 0, 40, .inl g))) (cpy_shl _)
theorem yl_was {j x : Nat} (hm : HQ G h0 h v K) (hd : decode cc pc = .ok (.iaload, 1)) (hj : j < 40) (e : K.1.2.2.1 j = x) (kk : AW G y cc mL rt R Z cn sn (pc + 1) ls (.int (nI x) :: st) h) : AW G y cc mL rt R Z cn sn pc ls (.int (nI j) :: .ref (gB G + 60) :: st) h :=
  b_iald j hd hm.2.2.2.2.2.2.1 rfl hj (by decide) (by rw [e]; exact kk)
theorem ys_was {j x : Nat} (hm : HQ G h0 h v K) (hd : decode cc pc = .ok (.iastore, 1)) (hj : j < 40) (kk : ∀ h1, HQ G h0 h1 v ((K.1.1, K.1.2.1, va_up (K.1.2.2.1) j x, K.1.2.2.2), K.2) → AW G y cc mL rt R Z cn sn (pc + 1) ls st h1) : AW G y cc mL rt R Z cn sn pc ls (.int (nI x) :: .int (nI j) :: .ref (gB G + 60) :: st) h := by
  refine b_iast j hd hm.2.2.2.2.2.2.1 rfl hj (by decide) ?_
  refine a_h (congrArg (fun e => h.set 60 e) (show _ = (ints G 40 (va_up (K.1.2.2.1) j x) : va_E) from ?_)) (kk _ ⟨by rw [List.length_set]; exact hm.1, fun k hk => hs_ne (by omega) (hm.2.1 k hk), ⟨hs_ne (by decide) hm.now.1, hs_ne (by decide) hm.now.2.1, hs_ne (by decide) hm.now.2.2.1, hm.now.2.2.2⟩, hs_ne (by decide) hm.ob, hs_ne (by decide) hm.2.2.2.2.1, hs_ne (by decide) hm.2.2.2.2.2.1, hs_eq hm.2.2.2.2.2.2.1, hs_ne (by decide) hm.2.2.2.2.2.2.2⟩)
  exact congrArg (fun g : Nat → Int32 => (show va_E from .inl (gc G 0, 40, .inl g))) (upd_nI _ _ _)
theorem yc_was {d mc ms : Nat} (hm : HQ G h0 h v K) (ho : y.cls = RX1) (hd : decode cc pc = .ok (.invokestatic 38, 3)) (hW : (st.map fun v => v.category).sum ≤ 3) (kk : ∀ h1, HQ G h0 h1 v ((K.1.1, K.1.2.1, shl (K.1.2.2.1), K.1.2.2.2), K.2) → AW G y cc mL rt (rmx (d + 1) mc ms) Z cn sn (pc + 3) ls st h1) : AW G y cc mL rt (rmx (d + 1) mc ms) Z cn sn pc ls (.int (nI 39) :: .int (nI 0) :: .ref (gB G + 60) :: .int (nI 1) :: .ref (gB G + 60) :: st) h := by
  refine a_copyiR 1 0 39 hd (by rw [ho]; exact w_449) (by decide) (by decide) rfl rfl rfl (by decide) (by decide) hm.2.2.2.2.2.2.1 hm.2.2.2.2.2.2.1 (by omega) ?_
  refine a_h (congrArg (fun e => h.set 60 e) (show _ = (ints G 40 (shl (K.1.2.2.1)) : va_E) from ?_)) (kk _ ⟨by rw [List.length_set]; exact hm.1, fun k hk => hs_ne (by omega) (hm.2.1 k hk), ⟨hs_ne (by decide) hm.now.1, hs_ne (by decide) hm.now.2.1, hs_ne (by decide) hm.now.2.2.1, hm.now.2.2.2⟩, hs_ne (by decide) hm.ob, hs_ne (by decide) hm.2.2.2.2.1, hs_ne (by decide) hm.2.2.2.2.2.1, hs_eq hm.2.2.2.2.2.2.1, hs_ne (by decide) hm.2.2.2.2.2.2.2⟩)
  exact congrArg (fun g : Nat → Int32 => (show va_E from .inl (gc G 0, 40, .inl g))) (cpy_shl _)
theorem yl_became {j x : Nat} (hm : HQ G h0 h v K) (hd : decode cc pc = .ok (.iaload, 1)) (hj : j < 40) (e : K.1.2.2.2 j = x) (kk : AW G y cc mL rt R Z cn sn (pc + 1) ls (.int (nI x) :: st) h) : AW G y cc mL rt R Z cn sn pc ls (.int (nI j) :: .ref (gB G + 61) :: st) h :=
  b_iald j hd hm.2.2.2.2.2.2.2 rfl hj (by decide) (by rw [e]; exact kk)
theorem ys_became {j x : Nat} (hm : HQ G h0 h v K) (hd : decode cc pc = .ok (.iastore, 1)) (hj : j < 40) (kk : ∀ h1, HQ G h0 h1 v ((K.1.1, K.1.2.1, K.1.2.2.1, va_up (K.1.2.2.2) j x), K.2) → AW G y cc mL rt R Z cn sn (pc + 1) ls st h1) : AW G y cc mL rt R Z cn sn pc ls (.int (nI x) :: .int (nI j) :: .ref (gB G + 61) :: st) h := by
  refine b_iast j hd hm.2.2.2.2.2.2.2 rfl hj (by decide) ?_
  refine a_h (congrArg (fun e => h.set 61 e) (show _ = (ints G 40 (va_up (K.1.2.2.2) j x) : va_E) from ?_)) (kk _ ⟨by rw [List.length_set]; exact hm.1, fun k hk => hs_ne (by omega) (hm.2.1 k hk), ⟨hs_ne (by decide) hm.now.1, hs_ne (by decide) hm.now.2.1, hs_ne (by decide) hm.now.2.2.1, hm.now.2.2.2⟩, hs_ne (by decide) hm.ob, hs_ne (by decide) hm.2.2.2.2.1, hs_ne (by decide) hm.2.2.2.2.2.1, hs_ne (by decide) hm.2.2.2.2.2.2.1, hs_eq hm.2.2.2.2.2.2.2⟩)
  exact congrArg (fun g : Nat → Int32 => (show va_E from .inl (gc G 0, 40, .inl g))) (upd_nI _ _ _)
theorem yc_became {d mc ms : Nat} (hm : HQ G h0 h v K) (ho : y.cls = RX1) (hd : decode cc pc = .ok (.invokestatic 38, 3)) (hW : (st.map fun v => v.category).sum ≤ 3) (kk : ∀ h1, HQ G h0 h1 v ((K.1.1, K.1.2.1, K.1.2.2.1, shl (K.1.2.2.2)), K.2) → AW G y cc mL rt (rmx (d + 1) mc ms) Z cn sn (pc + 3) ls st h1) : AW G y cc mL rt (rmx (d + 1) mc ms) Z cn sn pc ls (.int (nI 39) :: .int (nI 0) :: .ref (gB G + 61) :: .int (nI 1) :: .ref (gB G + 61) :: st) h := by
  refine a_copyiR 1 0 39 hd (by rw [ho]; exact w_449) (by decide) (by decide) rfl rfl rfl (by decide) (by decide) hm.2.2.2.2.2.2.2 hm.2.2.2.2.2.2.2 (by omega) ?_
  refine a_h (congrArg (fun e => h.set 61 e) (show _ = (ints G 40 (shl (K.1.2.2.2)) : va_E) from ?_)) (kk _ ⟨by rw [List.length_set]; exact hm.1, fun k hk => hs_ne (by omega) (hm.2.1 k hk), ⟨hs_ne (by decide) hm.now.1, hs_ne (by decide) hm.now.2.1, hs_ne (by decide) hm.now.2.2.1, hm.now.2.2.2⟩, hs_ne (by decide) hm.ob, hs_ne (by decide) hm.2.2.2.2.1, hs_ne (by decide) hm.2.2.2.2.2.1, hs_ne (by decide) hm.2.2.2.2.2.2.1, hs_eq hm.2.2.2.2.2.2.2⟩)
  exact congrArg (fun g : Nat → Int32 => (show va_E from .inl (gc G 0, 40, .inl g))) (cpy_shl _)
end HQr
set_option maxRecDepth 100000 in
set_option maxHeartbeats 4000000 in
theorem h_forget {G : Cx} {d : Nat} {h h0 : List va_E} {v : Cv} {K : Hk} {Q : Option Value → List va_E → Prop} (hd : 1 ≤ d) (hz : gz G = false) (hm : HQ G h0 h v K) (k : ∀ h1, HQ G h0 h1 v ((shl K.1.1, shl K.1.2.1, shl K.1.2.2.1, shl K.1.2.2.2), 39, K.2.2) → Q none h1) : AM G yX1_forgetOldest cX1_forgetOldest 1 none d 0 0 [.ref (gB G + 57)] h Q := by
  obtain ⟨d, rfl, he⟩ := dpos hd
  refine AM.of [some (.ref (gB G + 57))] pnX1 (Nat.le_of_ble_eq_true rfl) (by simp [lsub, lvI, Value.category]) ?_
  refine a_aloadn_0 (pc := 0) dX1_forgetOldest_0 ?_
  refine a_bipush (pc := 1) (v := nI 39) dX1_forgetOldest_1 (by decide) ?_
  refine yp_28 (x := 39) hm rfl dX1_forgetOldest_3 (fun h1 hm1 => ?_)
  refine a_aloadn_0 (pc := 6) dX1_forgetOldest_6 ?_
  refine yg_11 hm1 rfl dX1_forgetOldest_7 ?_
  refine a_iconst (pc := 10) (v := nI 1) dX1_forgetOldest_10 (by decide) ?_
  refine a_aloadn_0 (pc := 11) dX1_forgetOldest_11 ?_
  refine yg_11 hm1 rfl dX1_forgetOldest_12 ?_
  refine a_iconst (pc := 15) (v := nI 0) dX1_forgetOldest_15 (by decide) ?_
  refine a_aloadn_0 (pc := 16) dX1_forgetOldest_16 ?_
  refine yg_28 (x := 39) hm1 rfl dX1_forgetOldest_17 rfl ?_
  refine yc_number hm1 rfl dX1_forgetOldest_20 (Nat.le_of_ble_eq_true rfl) (fun h2 hm2 => ?_)
  refine a_aloadn_0 (pc := 23) dX1_forgetOldest_23 ?_
  refine yg_15 hm2 rfl dX1_forgetOldest_24 ?_
  refine a_iconst (pc := 27) (v := nI 1) dX1_forgetOldest_27 (by decide) ?_
  refine a_aloadn_0 (pc := 28) dX1_forgetOldest_28 ?_
  refine yg_15 hm2 rfl dX1_forgetOldest_29 ?_
  refine a_iconst (pc := 32) (v := nI 0) dX1_forgetOldest_32 (by decide) ?_
  refine a_aloadn_0 (pc := 33) dX1_forgetOldest_33 ?_
  refine yg_28 (x := 39) hm2 rfl dX1_forgetOldest_34 rfl ?_
  refine yc_what hm2 rfl dX1_forgetOldest_37 (Nat.le_of_ble_eq_true rfl) (fun h3 hm3 => ?_)
  refine a_aloadn_0 (pc := 40) dX1_forgetOldest_40 ?_
  refine yg_18 hm3 rfl dX1_forgetOldest_41 ?_
  refine a_iconst (pc := 44) (v := nI 1) dX1_forgetOldest_44 (by decide) ?_
  refine a_aloadn_0 (pc := 45) dX1_forgetOldest_45 ?_
  refine yg_18 hm3 rfl dX1_forgetOldest_46 ?_
  refine a_iconst (pc := 49) (v := nI 0) dX1_forgetOldest_49 (by decide) ?_
  refine a_aloadn_0 (pc := 50) dX1_forgetOldest_50 ?_
  refine yg_28 (x := 39) hm3 rfl dX1_forgetOldest_51 rfl ?_
  refine yc_was hm3 rfl dX1_forgetOldest_54 (Nat.le_of_ble_eq_true rfl) (fun h4 hm4 => ?_)
  refine a_aloadn_0 (pc := 57) dX1_forgetOldest_57 ?_
  refine yg_21 hm4 rfl dX1_forgetOldest_58 ?_
  refine a_iconst (pc := 61) (v := nI 1) dX1_forgetOldest_61 (by decide) ?_
  refine a_aloadn_0 (pc := 62) dX1_forgetOldest_62 ?_
  refine yg_21 hm4 rfl dX1_forgetOldest_63 ?_
  refine a_iconst (pc := 66) (v := nI 0) dX1_forgetOldest_66 (by decide) ?_
  refine a_aloadn_0 (pc := 67) dX1_forgetOldest_67 ?_
  refine yg_28 (x := 39) hm4 rfl dX1_forgetOldest_68 rfl ?_
  refine yc_became hm4 rfl dX1_forgetOldest_71 (Nat.le_of_ble_eq_true rfl) (fun h5 hm5 => ?_)
  exact a_vret (pc := 74) dX1_forgetOldest_74 rfl (zf hz) (k _ hm5)
set_option maxRecDepth 100000 in
set_option maxHeartbeats 4000000 in
theorem h_add {G : Cx} {d : Nat} {h h0 : List va_E} {v : Cv} {K : Hk} {Q : Option Value → List va_E → Prop} (hd : 2 ≤ d) (hz : gz G = false) (hm : HQ G h0 h v K) {n w a z : Nat} (hd9 : K.2.1 ≤ 40) (k1 : K.2.1 < 40 → ∀ h1, HQ G h0 h1 v ((va_up K.1.1 K.2.1 n, va_up K.1.2.1 K.2.1 w, va_up K.1.2.2.1 K.2.1 a, va_up K.1.2.2.2 K.2.1 z), K.2.1 + 1, K.2.1 + 1) → Q none h1) (k2 : K.2.1 = 40 → ∀ h1, HQ G h0 h1 v ((va_up (shl K.1.1) 39 n, va_up (shl K.1.2.1) 39 w, va_up (shl K.1.2.2.1) 39 a, va_up (shl K.1.2.2.2) 39 z), 39 + 1, 39 + 1) → Q none h1) : AM G yX1_add cX1_add 5 none d 0 0 [.ref (gB G + 57), .int (nI (n)), .int (nI (w)), .int (nI (a)), .int (nI (z))] h Q := by
  obtain ⟨d, rfl, he⟩ := dpos hd
  refine AM.of [some (.ref (gB G + 57)), some (.int (nI (n))), some (.int (nI (w))), some (.int (nI (a))), some (.int (nI (z)))] pnX1 (Nat.le_of_ble_eq_true rfl) (by simp [lsub, lvI, Value.category]) ?_
  refine a_aloadn_0 (pc := 0) dX1_add_0 ?_
  refine yg_28 (x := K.2.1) hm rfl dX1_add_1 rfl ?_
  refine a_bipush (pc := 4) (v := nI 40) dX1_add_4 (by decide) ?_
  refine n_icmp_lt (tgt := 13) dX1_add_6 (by decide) (by omega) (by decide) (fun c_6 => ?_) (fun c_6 => ?_)
  · refine a_aloadn_0 (pc := 13) dX1_add_13 ?_
    refine yg_11 hm rfl dX1_add_14 ?_
    refine a_aloadn_0 (pc := 17) dX1_add_17 ?_
    refine yg_28 (x := K.2.1) hm rfl dX1_add_18 rfl ?_
    refine a_iloadn_1 (pc := 21) dX1_add_21 ?_
    refine ys_number (j := K.2.1) (x := n) hm dX1_add_22 (by omega) (fun h1 hm1 => ?_)
    refine a_aloadn_0 (pc := 23) dX1_add_23 ?_
    refine yg_15 hm1 rfl dX1_add_24 ?_
    refine a_aloadn_0 (pc := 27) dX1_add_27 ?_
    refine yg_28 (x := K.2.1) hm1 rfl dX1_add_28 rfl ?_
    refine a_iloadn_2 (pc := 31) dX1_add_31 ?_
    refine ys_what (j := K.2.1) (x := w) hm1 dX1_add_32 (by omega) (fun h2 hm2 => ?_)
    refine a_aloadn_0 (pc := 33) dX1_add_33 ?_
    refine yg_18 hm2 rfl dX1_add_34 ?_
    refine a_aloadn_0 (pc := 37) dX1_add_37 ?_
    refine yg_28 (x := K.2.1) hm2 rfl dX1_add_38 rfl ?_
    refine a_iloadn_3 (pc := 41) dX1_add_41 ?_
    refine ys_was (j := K.2.1) (x := a) hm2 dX1_add_42 (by omega) (fun h3 hm3 => ?_)
    refine a_aloadn_0 (pc := 43) dX1_add_43 ?_
    refine yg_21 hm3 rfl dX1_add_44 ?_
    refine a_aloadn_0 (pc := 47) dX1_add_47 ?_
    refine yg_28 (x := K.2.1) hm3 rfl dX1_add_48 rfl ?_
    refine a_iload_4 (pc := 51) dX1_add_51 ?_
    refine ys_became (j := K.2.1) (x := z) hm3 dX1_add_53 (by omega) (fun h4 hm4 => ?_)
    refine a_aloadn_0 (pc := 54) dX1_add_54 ?_
    refine a_dup (pc := 55) dX1_add_55 rfl ?_
    refine yg_28 (x := K.2.1) hm4 rfl dX1_add_56 rfl ?_
    refine a_iconst (pc := 59) (v := nI 1) dX1_add_59 (by decide) ?_
    refine n_iadd dX1_add_60 ?_
    refine yp_28 (x := K.2.1 + 1) hm4 rfl dX1_add_61 (fun h5 hm5 => ?_)
    refine a_aloadn_0 (pc := 64) dX1_add_64 ?_
    refine a_aloadn_0 (pc := 65) dX1_add_65 ?_
    refine yg_28 (x := K.2.1 + 1) hm5 rfl dX1_add_66 rfl ?_
    refine yp_35 (x := K.2.1 + 1) hm5 rfl dX1_add_69 (fun h6 hm6 => ?_)
    exact a_vret (pc := 72) dX1_add_72 rfl (zf hz) (k1 c_6 _ hm6)
  · refine a_aloadn_0 (pc := 9) dX1_add_9 ?_
    refine cv_X1_32 (pc := 10) rfl dX1_add_10 hm.ob (Nat.le_of_ble_eq_true rfl) ?_
    refine h_forget (by omega) hz hm (fun h1 hm1 => ?_)
    refine a_aloadn_0 (pc := 13) dX1_add_13 ?_
    refine yg_11 hm1 rfl dX1_add_14 ?_
    refine a_aloadn_0 (pc := 17) dX1_add_17 ?_
    refine yg_28 (x := 39) hm1 rfl dX1_add_18 rfl ?_
    refine a_iloadn_1 (pc := 21) dX1_add_21 ?_
    refine ys_number (j := 39) (x := n) hm1 dX1_add_22 (by omega) (fun h2 hm2 => ?_)
    refine a_aloadn_0 (pc := 23) dX1_add_23 ?_
    refine yg_15 hm2 rfl dX1_add_24 ?_
    refine a_aloadn_0 (pc := 27) dX1_add_27 ?_
    refine yg_28 (x := 39) hm2 rfl dX1_add_28 rfl ?_
    refine a_iloadn_2 (pc := 31) dX1_add_31 ?_
    refine ys_what (j := 39) (x := w) hm2 dX1_add_32 (by omega) (fun h3 hm3 => ?_)
    refine a_aloadn_0 (pc := 33) dX1_add_33 ?_
    refine yg_18 hm3 rfl dX1_add_34 ?_
    refine a_aloadn_0 (pc := 37) dX1_add_37 ?_
    refine yg_28 (x := 39) hm3 rfl dX1_add_38 rfl ?_
    refine a_iloadn_3 (pc := 41) dX1_add_41 ?_
    refine ys_was (j := 39) (x := a) hm3 dX1_add_42 (by omega) (fun h4 hm4 => ?_)
    refine a_aloadn_0 (pc := 43) dX1_add_43 ?_
    refine yg_21 hm4 rfl dX1_add_44 ?_
    refine a_aloadn_0 (pc := 47) dX1_add_47 ?_
    refine yg_28 (x := 39) hm4 rfl dX1_add_48 rfl ?_
    refine a_iload_4 (pc := 51) dX1_add_51 ?_
    refine ys_became (j := 39) (x := z) hm4 dX1_add_53 (by omega) (fun h5 hm5 => ?_)
    refine a_aloadn_0 (pc := 54) dX1_add_54 ?_
    refine a_dup (pc := 55) dX1_add_55 rfl ?_
    refine yg_28 (x := 39) hm5 rfl dX1_add_56 rfl ?_
    refine a_iconst (pc := 59) (v := nI 1) dX1_add_59 (by decide) ?_
    refine n_iadd dX1_add_60 ?_
    refine yp_28 (x := 40) hm5 rfl dX1_add_61 (fun h6 hm6 => ?_)
    refine a_aloadn_0 (pc := 64) dX1_add_64 ?_
    refine a_aloadn_0 (pc := 65) dX1_add_65 ?_
    refine yg_28 (x := 40) hm6 rfl dX1_add_66 rfl ?_
    refine yp_35 (x := 40) hm6 rfl dX1_add_69 (fun h7 hm7 => ?_)
    exact a_vret (pc := 72) dX1_add_72 rfl (zf hz) (k2 (by omega) _ hm7)
set_option maxRecDepth 100000 in
set_option maxHeartbeats 4000000 in
theorem h_takeBack {G : Cx} {d : Nat} {h h0 : List va_E} {v : Cv} {K : Hk} {Q : Option Value → List va_E → Prop} (hd : 4 ≤ d) (hz : gz G = false) (hm : HQ G h0 h v K) (hd9 : K.2.1 ≤ 40) (hw : 0 < K.2.1 → (K.1.2.1 (K.2.1 - 1) ≤ 6 ∧ (K.1.2.1 (K.2.1 - 1) ≤ 3 → K.1.1 (K.2.1 - 1) < 36) ∧ mayN (K.1.2.1 (K.2.1 - 1)) (K.1.2.2.1 (K.2.1 - 1)))) (k0 : K.2.1 = 0 → Q (some (.int (-5))) h) (k1 : 0 < K.2.1 → ∀ h1, HQ G h0 h1 (cTell v (K.1.1 (K.2.1 - 1)) (K.1.2.1 (K.2.1 - 1)) (K.1.2.2.1 (K.2.1 - 1))) (K.1, (K.2.1 - 1), K.2.2) → Q (some (.int (nI (K.2.1 - 1)))) h1) : AM G yX1_takeBack cX1_takeBack 1 (some .int) d 0 0 [.ref (gB G + 57)] h Q := by
  obtain ⟨d, rfl, he⟩ := dpos hd
  refine AM.of [some (.ref (gB G + 57))] pnX1 (Nat.le_of_ble_eq_true rfl) (by simp [lsub, lvI, Value.category]) ?_
  refine a_aloadn_0 (pc := 0) dX1_takeBack_0 ?_
  refine yg_28 (x := K.2.1) hm rfl dX1_takeBack_1 rfl ?_
  refine n_if_gt (tgt := 10) dX1_takeBack_4 (by decide) (by omega) (fun c_4 => ?_) (fun c_4 => ?_)
  · have hw9 := hw c_4
    refine a_aloadn_0 (pc := 10) dX1_takeBack_10 ?_
    refine a_dup (pc := 11) dX1_takeBack_11 rfl ?_
    refine yg_28 (x := K.2.1) hm rfl dX1_takeBack_12 rfl ?_
    refine a_iconst (pc := 15) (v := nI 1) dX1_takeBack_15 (by decide) ?_
    refine n_isub dX1_takeBack_16 (by omega) ?_
    refine yp_28 (x := K.2.1 - 1) hm rfl dX1_takeBack_17 (fun h1 hm1 => ?_)
    refine a_aloadn_0 (pc := 20) dX1_takeBack_20 ?_
    refine yg_24 hm1 rfl dX1_takeBack_21 ?_
    refine a_aloadn_0 (pc := 24) dX1_takeBack_24 ?_
    refine yg_11 hm1 rfl dX1_takeBack_25 ?_
    refine a_aloadn_0 (pc := 28) dX1_takeBack_28 ?_
    refine yg_28 (x := K.2.1 - 1) hm1 rfl dX1_takeBack_29 rfl ?_
    refine yl_number (x := K.1.1 (K.2.1 - 1)) hm1 dX1_takeBack_32 (by omega) rfl ?_
    refine a_aloadn_0 (pc := 33) dX1_takeBack_33 ?_
    refine yg_15 hm1 rfl dX1_takeBack_34 ?_
    refine a_aloadn_0 (pc := 37) dX1_takeBack_37 ?_
    refine yg_28 (x := K.2.1 - 1) hm1 rfl dX1_takeBack_38 rfl ?_
    refine yl_what (x := K.1.2.1 (K.2.1 - 1)) hm1 dX1_takeBack_41 (by omega) rfl ?_
    refine a_aloadn_0 (pc := 42) dX1_takeBack_42 ?_
    refine yg_18 hm1 rfl dX1_takeBack_43 ?_
    refine a_aloadn_0 (pc := 46) dX1_takeBack_46 ?_
    refine yg_28 (x := K.2.1 - 1) hm1 rfl dX1_takeBack_47 rfl ?_
    refine yl_was (x := K.1.2.2.1 (K.2.1 - 1)) hm1 dX1_takeBack_50 (by omega) rfl ?_
    refine cv_X1_44 (pc := 51) rfl dX1_takeBack_51 hm1.now.1 (Nat.le_of_ble_eq_true rfl) ?_
    refine x_tell (by omega) hz hm1.now hw9.1 hw9.2.1 hw9.2.2 ?_
    have hm2 := hm1.put (okC_tell (v := v) hm1.now.2.2.2 hw9.1 hw9.2.1 hw9.2.2)
    refine a_aloadn_0 (pc := 54) dX1_takeBack_54 ?_
    refine yg_28 (x := K.2.1 - 1) hm2 rfl dX1_takeBack_55 rfl ?_
    exact a_iret (pc := 58) dX1_takeBack_58 rfl (zf hz) (k1 c_4 _ hm2)
  · refine a_bipush (pc := 7) (v := (-5)) dX1_takeBack_7 (by decide) ?_
    exact a_iret (pc := 9) dX1_takeBack_9 rfl (zf hz) (k0 c_4)
set_option maxRecDepth 100000 in
set_option maxHeartbeats 4000000 in
theorem h_doAgain {G : Cx} {d : Nat} {h h0 : List va_E} {v : Cv} {K : Hk} {Q : Option Value → List va_E → Prop} (hd : 4 ≤ d) (hz : gz G = false) (hm : HQ G h0 h v K) (hd9 : K.2.1 ≤ K.2.2 ∧ K.2.2 ≤ 40) (hw : K.2.1 < K.2.2 → (K.1.2.1 K.2.1 ≤ 6 ∧ (K.1.2.1 K.2.1 ≤ 3 → K.1.1 K.2.1 < 36) ∧ mayN (K.1.2.1 K.2.1) (K.1.2.2.2 K.2.1))) (k0 : ¬ K.2.1 < K.2.2 → Q (some (.int (-5))) h) (k1 : K.2.1 < K.2.2 → ∀ h1, HQ G h0 h1 (cTell v (K.1.1 K.2.1) (K.1.2.1 K.2.1) (K.1.2.2.2 K.2.1)) (K.1, K.2.1 + 1, K.2.2) → Q (some (.int (nI (K.2.2 - (K.2.1 + 1))))) h1) : AM G yX1_doAgain cX1_doAgain 1 (some .int) d 0 0 [.ref (gB G + 57)] h Q := by
  obtain ⟨d, rfl, he⟩ := dpos hd
  refine AM.of [some (.ref (gB G + 57))] pnX1 (Nat.le_of_ble_eq_true rfl) (by simp [lsub, lvI, Value.category]) ?_
  refine a_aloadn_0 (pc := 0) dX1_doAgain_0 ?_
  refine yg_28 (x := K.2.1) hm rfl dX1_doAgain_1 rfl ?_
  refine a_aloadn_0 (pc := 4) dX1_doAgain_4 ?_
  refine yg_35 (x := K.2.2) hm rfl dX1_doAgain_5 rfl ?_
  refine n_icmp_lt (tgt := 14) dX1_doAgain_8 (by decide) (by omega) (by omega) (fun c_8 => ?_) (fun c_8 => ?_)
  · have hw9 := hw c_8
    refine a_aloadn_0 (pc := 14) dX1_doAgain_14 ?_
    refine yg_24 hm rfl dX1_doAgain_15 ?_
    refine a_aloadn_0 (pc := 18) dX1_doAgain_18 ?_
    refine yg_11 hm rfl dX1_doAgain_19 ?_
    refine a_aloadn_0 (pc := 22) dX1_doAgain_22 ?_
    refine yg_28 (x := K.2.1) hm rfl dX1_doAgain_23 rfl ?_
    refine yl_number (x := K.1.1 K.2.1) hm dX1_doAgain_26 (by omega) rfl ?_
    refine a_aloadn_0 (pc := 27) dX1_doAgain_27 ?_
    refine yg_15 hm rfl dX1_doAgain_28 ?_
    refine a_aloadn_0 (pc := 31) dX1_doAgain_31 ?_
    refine yg_28 (x := K.2.1) hm rfl dX1_doAgain_32 rfl ?_
    refine yl_what (x := K.1.2.1 K.2.1) hm dX1_doAgain_35 (by omega) rfl ?_
    refine a_aloadn_0 (pc := 36) dX1_doAgain_36 ?_
    refine yg_21 hm rfl dX1_doAgain_37 ?_
    refine a_aloadn_0 (pc := 40) dX1_doAgain_40 ?_
    refine yg_28 (x := K.2.1) hm rfl dX1_doAgain_41 rfl ?_
    refine yl_became (x := K.1.2.2.2 K.2.1) hm dX1_doAgain_44 (by omega) rfl ?_
    refine cv_X1_44 (pc := 45) rfl dX1_doAgain_45 hm.now.1 (Nat.le_of_ble_eq_true rfl) ?_
    refine x_tell (by omega) hz hm.now hw9.1 hw9.2.1 hw9.2.2 ?_
    have hm1 := hm.put (okC_tell (v := v) hm.now.2.2.2 hw9.1 hw9.2.1 hw9.2.2)
    refine a_aloadn_0 (pc := 48) dX1_doAgain_48 ?_
    refine a_dup (pc := 49) dX1_doAgain_49 rfl ?_
    refine yg_28 (x := K.2.1) hm1 rfl dX1_doAgain_50 rfl ?_
    refine a_iconst (pc := 53) (v := nI 1) dX1_doAgain_53 (by decide) ?_
    refine n_iadd dX1_doAgain_54 ?_
    refine yp_28 (x := K.2.1 + 1) hm1 rfl dX1_doAgain_55 (fun h2 hm2 => ?_)
    refine a_aloadn_0 (pc := 58) dX1_doAgain_58 ?_
    refine yg_35 (x := K.2.2) hm2 rfl dX1_doAgain_59 rfl ?_
    refine a_aloadn_0 (pc := 62) dX1_doAgain_62 ?_
    refine yg_28 (x := K.2.1 + 1) hm2 rfl dX1_doAgain_63 rfl ?_
    refine n_isub dX1_doAgain_66 (by omega) ?_
    exact a_iret (pc := 67) dX1_doAgain_67 rfl (zf hz) (k1 c_8 _ hm2)
  · refine a_bipush (pc := 11) (v := (-5)) dX1_doAgain_11 (by decide) ?_
    exact a_iret (pc := 13) dX1_doAgain_13 rfl (zf hz) (k0 (Nat.not_lt.mpr c_8))
