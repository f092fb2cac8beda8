/-! THE CLASS reads a text: the reader (16, its tape 17) and a text at t (8 or 18) -/
def TSh (G : Cx) (h : List va_E) (t : Nat) (x : Tx) : Prop :=
  h[t]? = some (.inr (4, [.ref (gB G + (t + 1)), .ref (gB G + (t + 2)), .ref (gB G + (t + 3)), .ref (gB G + (t + 4)), .ref (gB G + (t + 5)), .ref (gB G + (t + 6)), .int (nI (tP x)), .int (nI (tN x))])) ∧
  h[t + 1]? = some (ints G 126 (tS x)) ∧ h[t + 2]? = some (ints G 126 (tL x)) ∧ h[t + 3]? = some (ints G 126 (tR x)) ∧ h[t + 4]? = some (arr G 126 (tV x)) ∧ h[t + 5]? = some (arr G 61 (fun i => oI (tF x i))) ∧ h[t + 6]? = some (ints G 61 (tD x))
def RS (G : Cx) (h0 h : List va_E) (t : Nat) (b : Nat → Nat) (n p : Nat) (f : Int32) (x : Tx) : Prop :=
  (t = 8 ∨ t = 18) ∧ h.length = h0.length ∧ (∀ k, k ≠ 16 → (k < t ∨ t + 6 < k) → h[k]? = h0[k]?) ∧ h[16]? = some (.inr (3, [.ref (gB G + 17), .int (nI n), .int (nI p), .int f, .ref (gB G + t)])) ∧ h[17]? = some (ints G 120 b) ∧ TSh G h t x
abbrev xS (x : Tx) (f : Nat → Nat) : Tx := (f, tL x, tR x, tV x, tF x, tD x, tP x, tN x)
abbrev xL (x : Tx) (f : Nat → Nat) : Tx := (tS x, f, tR x, tV x, tF x, tD x, tP x, tN x)
abbrev xR (x : Tx) (f : Nat → Nat) : Tx := (tS x, tL x, f, tV x, tF x, tD x, tP x, tN x)
abbrev xV (x : Tx) (f : Nat → Int32) : Tx := (tS x, tL x, tR x, f, tF x, tD x, tP x, tN x)
abbrev xF (x : Tx) (f : Nat → Option Nat) : Tx := (tS x, tL x, tR x, tV x, f, tD x, tP x, tN x)
abbrev xD (x : Tx) (f : Nat → Nat) : Tx := (tS x, tL x, tR x, tV x, tF x, f, tP x, tN x)
abbrev xP (x : Tx) (n : Nat) : Tx := (tS x, tL x, tR x, tV x, tF x, tD x, n, tN x)
abbrev xN (x : Tx) (n : Nat) : Tx := (tS x, tL x, tR x, tV x, tF x, tD x, tP x, n)
theorem upd_oI (f : Nat → Option Nat) (r : Nat) (x : Option Nat) : upd (fun j => oI (f j)) r (oI x) = fun j => oI (va_up f r x j) := by
  funext j
  unfold upd va_up
  by_cases h : j = r <;> simp [h]
section RSs
variable {G : Cx} {h0 h : List va_E} {t n p : Nat} {b : Nat → Nat} {f : Int32} {x : Tx}
theorem RS.ob (H : RS G h0 h t b n p f x) : h[16]? = some (.inr (3, [.ref (gB G + 17), .int (nI n), .int (nI p), .int f, .ref (gB G + t)])) := H.2.2.2.1
theorem RS.tx (H : RS G h0 h t b n p f x) : TSh G h t x := H.2.2.2.2.2
theorem RS.rd {p' : Nat} {f' : Int32} (H : RS G h0 h t b n p f x) : RS G h0 (h.set 16 (.inr (3, [.ref (gB G + 17), .int (nI n), .int (nI p'), .int f', .ref (gB G + t)]))) t b n p' f' x := by
  obtain ⟨h1, h2, h3, h4, h5, q0, q1, q2, q3, q4, q5, q6⟩ := H
  exact ⟨h1, by rw [List.length_set]; exact h2, fun k a1 a2 => hs_ne (fun q => a1 q.symm) (h3 k a1 a2), hs_eq h4, hs_ne (by omega) h5, hs_ne (by omega) q0, hs_ne (by omega) q1, hs_ne (by omega) q2, hs_ne (by omega) q3, hs_ne (by omega) q4, hs_ne (by omega) q5, hs_ne (by omega) q6⟩
theorem RS.tw {x' : Tx} {k : Nat} {e : va_E} (H : RS G h0 h t b n p f x) (hk : t ≤ k ∧ k ≤ t + 6) (hx : TSh G (h.set k e) t x') : RS G h0 (h.set k e) t b n p f x' := by
  obtain ⟨h1, h2, h3, h4, h5, -⟩ := H
  exact ⟨h1, by rw [List.length_set]; exact h2, fun j a1 a2 => hs_ne (by omega) (h3 j a1 a2), hs_ne (by omega) h4, hs_ne (by omega) h5, hx⟩
end RSs
section RSr
variable {G : Cx} {y : MethodName} {cc : ByteArray} {mL : Nat} {rt : Option FieldType} {R : Room} {Z : List Frame → Array Value → State → State → Prop} {cn sn pc : Nat} {ls : List (Option Value)} {st : List Value} {h h0 : List va_E} {t n p : Nat} {b : Nat → Nat} {f : Int32} {x : Tx}
theorem rg_9 (hm : RS G h0 h t b n p f x) (ho : y.cls = RX3) (hd : decode cc pc = .ok (.getfield 9, 3)) (kk : AW G y cc mL rt R Z cn sn (pc + 3) ls (.ref (gB G + 17) :: st) h) : AW G y cc mL rt R Z cn sn pc ls (.ref (gB G + 16) :: st) h :=
  gf_X3_9 ho hd hm.ob kk
theorem rg_22 (hm : RS G h0 h t b n p f x) (ho : y.cls = RX3) (hd : decode cc pc = .ok (.getfield 22, 3)) (kk : AW G y cc mL rt R Z cn sn (pc + 3) ls (.int (nI n) :: st) h) : AW G y cc mL rt R Z cn sn pc ls (.ref (gB G + 16) :: st) h :=
  gf_X3_22 ho hd hm.ob kk
theorem rg_26 (hm : RS G h0 h t b n p f x) (ho : y.cls = RX3) (hd : decode cc pc = .ok (.getfield 26, 3)) (kk : AW G y cc mL rt R Z cn sn (pc + 3) ls (.int (nI p) :: st) h) : AW G y cc mL rt R Z cn sn pc ls (.ref (gB G + 16) :: st) h :=
  gf_X3_26 ho hd hm.ob kk
theorem rg_29 (hm : RS G h0 h t b n p f x) (ho : y.cls = RX3) (hd : decode cc pc = .ok (.getfield 29, 3)) (kk : AW G y cc mL rt R Z cn sn (pc + 3) ls (.int f :: st) h) : AW G y cc mL rt R Z cn sn pc ls (.ref (gB G + 16) :: st) h :=
  gf_X3_29 ho hd hm.ob kk
theorem rg_18 (hm : RS G h0 h t b n p f x) (ho : y.cls = RX3) (hd : decode cc pc = .ok (.getfield 18, 3)) (kk : AW G y cc mL rt R Z cn sn (pc + 3) ls (.ref (gB G + t) :: st) h) : AW G y cc mL rt R Z cn sn pc ls (.ref (gB G + 16) :: st) h :=
  gf_X3_18 ho hd hm.ob kk
theorem rp_26 {v : Nat} (hm : RS G h0 h t b n p f x) (ho : y.cls = RX3) (hd : decode cc pc = .ok (.putfield 26, 3)) (kk : ∀ h1, RS G h0 h1 t b n v f x → AW G y cc mL rt R Z cn sn (pc + 3) ls st h1) : AW G y cc mL rt R Z cn sn pc ls (.int (nI v) :: .ref (gB G + 16) :: st) h :=
  pf_X3_26 ho hd hm.ob (kk _ hm.rd)
theorem rp_29 {v : Int32} (hm : RS G h0 h t b n p f x) (ho : y.cls = RX3) (hd : decode cc pc = .ok (.putfield 29, 3)) (kk : ∀ h1, RS G h0 h1 t b n p v x → AW G y cc mL rt R Z cn sn (pc + 3) ls st h1) : AW G y cc mL rt R Z cn sn pc ls (.int v :: .ref (gB G + 16) :: st) h :=
  pf_X3_29 ho hd hm.ob (kk _ hm.rd)
theorem rl_tape {j v : Nat} (hm : RS G h0 h t b n p f x) (hd : decode cc pc = .ok (.iaload, 1)) (hj : j < 120) (e : b j = v) (kk : AW G y cc mL rt R Z cn sn (pc + 1) ls (.int (nI v) :: st) h) : AW G y cc mL rt R Z cn sn pc ls (.int (nI j) :: .ref (gB G + 17) :: st) h :=
  b_iald j hd hm.2.2.2.2.1 rfl hj (by decide) (by rw [e]; exact kk)
theorem tg_11 (hm : RS G h0 h t b n p f x) (ho : y.cls = RX4) (hd : decode cc pc = .ok (.getfield 11, 3)) (kk : AW G y cc mL rt R Z cn sn (pc + 3) ls (.ref (gB G + (t + 1)) :: st) h) : AW G y cc mL rt R Z cn sn pc ls (.ref (gB G + t) :: st) h :=
  gf_X4_11 ho hd hm.tx.1 kk
theorem tg_15 (hm : RS G h0 h t b n p f x) (ho : y.cls = RX4) (hd : decode cc pc = .ok (.getfield 15, 3)) (kk : AW G y cc mL rt R Z cn sn (pc + 3) ls (.ref (gB G + (t + 2)) :: st) h) : AW G y cc mL rt R Z cn sn pc ls (.ref (gB G + t) :: st) h :=
  gf_X4_15 ho hd hm.tx.1 kk
theorem tg_18 (hm : RS G h0 h t b n p f x) (ho : y.cls = RX4) (hd : decode cc pc = .ok (.getfield 18, 3)) (kk : AW G y cc mL rt R Z cn sn (pc + 3) ls (.ref (gB G + (t + 3)) :: st) h) : AW G y cc mL rt R Z cn sn pc ls (.ref (gB G + t) :: st) h :=
  gf_X4_18 ho hd hm.tx.1 kk
theorem tg_21 (hm : RS G h0 h t b n p f x) (ho : y.cls = RX4) (hd : decode cc pc = .ok (.getfield 21, 3)) (kk : AW G y cc mL rt R Z cn sn (pc + 3) ls (.ref (gB G + (t + 4)) :: st) h) : AW G y cc mL rt R Z cn sn pc ls (.ref (gB G + t) :: st) h :=
  gf_X4_21 ho hd hm.tx.1 kk
theorem tg_24 (hm : RS G h0 h t b n p f x) (ho : y.cls = RX4) (hd : decode cc pc = .ok (.getfield 24, 3)) (kk : AW G y cc mL rt R Z cn sn (pc + 3) ls (.ref (gB G + (t + 5)) :: st) h) : AW G y cc mL rt R Z cn sn pc ls (.ref (gB G + t) :: st) h :=
  gf_X4_24 ho hd hm.tx.1 kk
theorem tg_27 (hm : RS G h0 h t b n p f x) (ho : y.cls = RX4) (hd : decode cc pc = .ok (.getfield 27, 3)) (kk : AW G y cc mL rt R Z cn sn (pc + 3) ls (.ref (gB G + (t + 6)) :: st) h) : AW G y cc mL rt R Z cn sn pc ls (.ref (gB G + t) :: st) h :=
  gf_X4_27 ho hd hm.tx.1 kk
theorem tg_30 {w : Nat} (hm : RS G h0 h t b n p f x) (ho : y.cls = RX4) (hd : decode cc pc = .ok (.getfield 30, 3)) (e : tP x = w) (kk : AW G y cc mL rt R Z cn sn (pc + 3) ls (.int (nI w) :: st) h) : AW G y cc mL rt R Z cn sn pc ls (.ref (gB G + t) :: st) h :=
  gf_X4_30 ho hd hm.tx.1 (by rw [e]; exact kk)
theorem tp_30 {v : Nat} (hm : RS G h0 h t b n p f x) (ho : y.cls = RX4) (hd : decode cc pc = .ok (.putfield 30, 3)) (kk : ∀ h1, RS G h0 h1 t b n p f (xP x v) → AW G y cc mL rt R Z cn sn (pc + 3) ls st h1) : AW G y cc mL rt R Z cn sn pc ls (.int (nI v) :: .ref (gB G + t) :: st) h :=
  pf_X4_30 ho hd hm.tx.1 (kk _ (hm.tw (x' := xP x v) (by omega) ⟨hs_eq hm.tx.1, hs_ne (by omega) hm.tx.2.1, hs_ne (by omega) hm.tx.2.2.1, hs_ne (by omega) hm.tx.2.2.2.1, hs_ne (by omega) hm.tx.2.2.2.2.1, hs_ne (by omega) hm.tx.2.2.2.2.2.1, hs_ne (by omega) hm.tx.2.2.2.2.2.2⟩))
theorem tg_34 {w : Nat} (hm : RS G h0 h t b n p f x) (ho : y.cls = RX4) (hd : decode cc pc = .ok (.getfield 34, 3)) (e : tN x = w) (kk : AW G y cc mL rt R Z cn sn (pc + 3) ls (.int (nI w) :: st) h) : AW G y cc mL rt R Z cn sn pc ls (.ref (gB G + t) :: st) h :=
  gf_X4_34 ho hd hm.tx.1 (by rw [e]; exact kk)
theorem tp_34 {v : Nat} (hm : RS G h0 h t b n p f x) (ho : y.cls = RX4) (hd : decode cc pc = .ok (.putfield 34, 3)) (kk : ∀ h1, RS G h0 h1 t b n p f (xN x v) → AW G y cc mL rt R Z cn sn (pc + 3) ls st h1) : AW G y cc mL rt R Z cn sn pc ls (.int (nI v) :: .ref (gB G + t) :: st) h :=
  pf_X4_34 ho hd hm.tx.1 (kk _ (hm.tw (x' := xN x v) (by omega) ⟨hs_eq hm.tx.1, hs_ne (by omega) hm.tx.2.1, hs_ne (by omega) hm.tx.2.2.1, hs_ne (by omega) hm.tx.2.2.2.1, hs_ne (by omega) hm.tx.2.2.2.2.1, hs_ne (by omega) hm.tx.2.2.2.2.2.1, hs_ne (by omega) hm.tx.2.2.2.2.2.2⟩))
theorem ts_sign {j : Nat} {v : Nat} (hm : RS G h0 h t b n p f x) (hd : decode cc pc = .ok (.iastore, 1)) (hj : j < 126) (kk : ∀ h1, RS G h0 h1 t b n p f (xS x (va_up (tS x) j v)) → AW G y cc mL rt R Z cn sn (pc + 1) ls st h1) : AW G y cc mL rt R Z cn sn pc ls (.int (nI v) :: .int (nI j) :: .ref (gB G + (t + 1)) :: st) h := by
  refine b_iast j hd hm.tx.2.1 rfl hj (by decide) ?_
  refine a_h (congrArg (fun e => h.set (t + 1) e) (show _ = (ints G 126 (va_up (tS x) j v) : va_E) from ?_)) (kk _ (hm.tw (x' := xS x (va_up (tS x) j v)) (by omega) ⟨hs_ne (by omega) hm.tx.1, hs_eq hm.tx.2.1, hs_ne (by omega) hm.tx.2.2.1, hs_ne (by omega) hm.tx.2.2.2.1, hs_ne (by omega) hm.tx.2.2.2.2.1, hs_ne (by omega) hm.tx.2.2.2.2.2.1, hs_ne (by omega) hm.tx.2.2.2.2.2.2⟩))
  exact congrArg (fun g : Nat → Int32 => (show va_E from .inl (gc G 0, 126, .inl g))) (upd_nI _ _ _)
theorem ts_left {j : Nat} {v : Nat} (hm : RS G h0 h t b n p f x) (hd : decode cc pc = .ok (.iastore, 1)) (hj : j < 126) (kk : ∀ h1, RS G h0 h1 t b n p f (xL x (va_up (tL x) j v)) → AW G y cc mL rt R Z cn sn (pc + 1) ls st h1) : AW G y cc mL rt R Z cn sn pc ls (.int (nI v) :: .int (nI j) :: .ref (gB G + (t + 2)) :: st) h := by
  refine b_iast j hd hm.tx.2.2.1 rfl hj (by decide) ?_
  refine a_h (congrArg (fun e => h.set (t + 2) e) (show _ = (ints G 126 (va_up (tL x) j v) : va_E) from ?_)) (kk _ (hm.tw (x' := xL x (va_up (tL x) j v)) (by omega) ⟨hs_ne (by omega) hm.tx.1, hs_ne (by omega) hm.tx.2.1, hs_eq hm.tx.2.2.1, hs_ne (by omega) hm.tx.2.2.2.1, hs_ne (by omega) hm.tx.2.2.2.2.1, hs_ne (by omega) hm.tx.2.2.2.2.2.1, hs_ne (by omega) hm.tx.2.2.2.2.2.2⟩))
  exact congrArg (fun g : Nat → Int32 => (show va_E from .inl (gc G 0, 126, .inl g))) (upd_nI _ _ _)
theorem ts_right {j : Nat} {v : Nat} (hm : RS G h0 h t b n p f x) (hd : decode cc pc = .ok (.iastore, 1)) (hj : j < 126) (kk : ∀ h1, RS G h0 h1 t b n p f (xR x (va_up (tR x) j v)) → AW G y cc mL rt R Z cn sn (pc + 1) ls st h1) : AW G y cc mL rt R Z cn sn pc ls (.int (nI v) :: .int (nI j) :: .ref (gB G + (t + 3)) :: st) h := by
  refine b_iast j hd hm.tx.2.2.2.1 rfl hj (by decide) ?_
  refine a_h (congrArg (fun e => h.set (t + 3) e) (show _ = (ints G 126 (va_up (tR x) j v) : va_E) from ?_)) (kk _ (hm.tw (x' := xR x (va_up (tR x) j v)) (by omega) ⟨hs_ne (by omega) hm.tx.1, hs_ne (by omega) hm.tx.2.1, hs_ne (by omega) hm.tx.2.2.1, hs_eq hm.tx.2.2.2.1, hs_ne (by omega) hm.tx.2.2.2.2.1, hs_ne (by omega) hm.tx.2.2.2.2.2.1, hs_ne (by omega) hm.tx.2.2.2.2.2.2⟩))
  exact congrArg (fun g : Nat → Int32 => (show va_E from .inl (gc G 0, 126, .inl g))) (upd_nI _ _ _)
theorem ts_value {j : Nat} {v : Int32} (hm : RS G h0 h t b n p f x) (hd : decode cc pc = .ok (.iastore, 1)) (hj : j < 126) (kk : ∀ h1, RS G h0 h1 t b n p f (xV x (upd (tV x) j v)) → AW G y cc mL rt R Z cn sn (pc + 1) ls st h1) : AW G y cc mL rt R Z cn sn pc ls (.int v :: .int (nI j) :: .ref (gB G + (t + 4)) :: st) h := by
  refine b_iast j hd hm.tx.2.2.2.2.1 rfl hj (by decide) ?_
  refine a_h (congrArg (fun e => h.set (t + 4) e) (show _ = (arr G 126 (upd (tV x) j v) : va_E) from ?_)) (kk _ (hm.tw (x' := xV x (upd (tV x) j v)) (by omega) ⟨hs_ne (by omega) hm.tx.1, hs_ne (by omega) hm.tx.2.1, hs_ne (by omega) hm.tx.2.2.1, hs_ne (by omega) hm.tx.2.2.2.1, hs_eq hm.tx.2.2.2.2.1, hs_ne (by omega) hm.tx.2.2.2.2.2.1, hs_ne (by omega) hm.tx.2.2.2.2.2.2⟩))
  exact congrArg (fun g : Nat → Int32 => (show va_E from .inl (gc G 0, 126, .inl g))) (rfl)
theorem ts_first {j : Nat} {v : Option Nat} (hm : RS G h0 h t b n p f x) (hd : decode cc pc = .ok (.iastore, 1)) (hj : j < 61) (kk : ∀ h1, RS G h0 h1 t b n p f (xF x (va_up (tF x) j v)) → AW G y cc mL rt R Z cn sn (pc + 1) ls st h1) : AW G y cc mL rt R Z cn sn pc ls (.int (oI v) :: .int (nI j) :: .ref (gB G + (t + 5)) :: st) h := by
  refine b_iast j hd hm.tx.2.2.2.2.2.1 rfl hj (by decide) ?_
  refine a_h (congrArg (fun e => h.set (t + 5) e) (show _ = (arr G 61 (fun i => oI (va_up (tF x) j v i)) : va_E) from ?_)) (kk _ (hm.tw (x' := xF x (va_up (tF x) j v)) (by omega) ⟨hs_ne (by omega) hm.tx.1, hs_ne (by omega) hm.tx.2.1, hs_ne (by omega) hm.tx.2.2.1, hs_ne (by omega) hm.tx.2.2.2.1, hs_ne (by omega) hm.tx.2.2.2.2.1, hs_eq hm.tx.2.2.2.2.2.1, hs_ne (by omega) hm.tx.2.2.2.2.2.2⟩))
  exact congrArg (fun g : Nat → Int32 => (show va_E from .inl (gc G 0, 61, .inl g))) (upd_oI _ _ _)
theorem ts_second {j : Nat} {v : Nat} (hm : RS G h0 h t b n p f x) (hd : decode cc pc = .ok (.iastore, 1)) (hj : j < 61) (kk : ∀ h1, RS G h0 h1 t b n p f (xD x (va_up (tD x) j v)) → AW G y cc mL rt R Z cn sn (pc + 1) ls st h1) : AW G y cc mL rt R Z cn sn pc ls (.int (nI v) :: .int (nI j) :: .ref (gB G + (t + 6)) :: st) h := by
  refine b_iast j hd hm.tx.2.2.2.2.2.2 rfl hj (by decide) ?_
  refine a_h (congrArg (fun e => h.set (t + 6) e) (show _ = (ints G 61 (va_up (tD x) j v) : va_E) from ?_)) (kk _ (hm.tw (x' := xD x (va_up (tD x) j v)) (by omega) ⟨hs_ne (by omega) hm.tx.1, hs_ne (by omega) hm.tx.2.1, hs_ne (by omega) hm.tx.2.2.1, hs_ne (by omega) hm.tx.2.2.2.1, hs_ne (by omega) hm.tx.2.2.2.2.1, hs_ne (by omega) hm.tx.2.2.2.2.2.1, hs_eq hm.tx.2.2.2.2.2.2⟩))
  exact congrArg (fun g : Nat → Int32 => (show va_E from .inl (gc G 0, 61, .inl g))) (upd_nI _ _ _)
end RSr
theorem pnX3 : plainName RX3 = true := by decide
set_option maxRecDepth 100000 in
set_option maxHeartbeats 4000000 in
theorem r_addPart {G : Cx} {d t n p : Nat} {h h0 : List va_E} {b : Nat → Nat} {f : Int32} {x : Tx} {Q : Option Value → List va_E → Prop} (hd : 1 ≤ d) (hz : gz G = false) (hm : RS G h0 h t b n p f x) {s a z : Nat} (k1 : tP x < 126 → ∀ h1, RS G h0 h1 t b n p f (xP (xR (xL (xS x (va_up (tS x) (tP x) s)) (va_up (tL x) (tP x) a)) (va_up (tR x) (tP x) z)) (tP x + 1)) → Q (some (.int (nI (tP x)))) h1) (k2 : ¬ tP x < 126 → Q (some (.int (nI 125))) h) (hP : tP x ≤ 126) : AM G yX4_addPart cX4_addPart 4 (some .int) d 0 0 [.ref (gB G + t), .int (nI (s)), .int (nI (a)), .int (nI (z))] h Q := by
  obtain ⟨d, rfl, he⟩ := dpos hd
  refine AM.of [some (.ref (gB G + t)), some (.int (nI (s))), some (.int (nI (a))), some (.int (nI (z)))] pnX4 (Nat.le_of_ble_eq_true rfl) (by simp [lsub, lvI, Value.category]) ?_
  refine a_aloadn_0 (pc := 0) dX4_addPart_0 ?_
  refine tg_30 (w := tP x) hm rfl dX4_addPart_1 rfl ?_
  refine a_bipush (pc := 4) (v := nI 126) dX4_addPart_4 (by decide) ?_
  refine n_icmp_lt (tgt := 12) dX4_addPart_6 (by decide) (by omega) (by decide) (fun hp => ?_) (fun hp => ?_)
  · refine a_aloadn_0 (pc := 12) dX4_addPart_12 ?_
    refine tg_11 hm rfl dX4_addPart_13 ?_
    refine a_aloadn_0 (pc := 16) dX4_addPart_16 ?_
    refine tg_30 (w := tP x) hm rfl dX4_addPart_17 rfl ?_
    refine a_iloadn_1 (pc := 20) dX4_addPart_20 ?_
    refine ts_sign (j := tP x) (v := s) hm dX4_addPart_21 (by omega) (fun h1 hm1 => ?_)
    refine a_aloadn_0 (pc := 22) dX4_addPart_22 ?_
    refine tg_15 hm1 rfl dX4_addPart_23 ?_
    refine a_aloadn_0 (pc := 26) dX4_addPart_26 ?_
    refine tg_30 (w := tP x) hm1 rfl dX4_addPart_27 rfl ?_
    refine a_iloadn_2 (pc := 30) dX4_addPart_30 ?_
    refine ts_left (j := tP x) (v := a) hm1 dX4_addPart_31 (by omega) (fun h2 hm2 => ?_)
    refine a_aloadn_0 (pc := 32) dX4_addPart_32 ?_
    refine tg_18 hm2 rfl dX4_addPart_33 ?_
    refine a_aloadn_0 (pc := 36) dX4_addPart_36 ?_
    refine tg_30 (w := tP x) hm2 rfl dX4_addPart_37 rfl ?_
    refine a_iloadn_3 (pc := 40) dX4_addPart_40 ?_
    refine ts_right (j := tP x) (v := z) hm2 dX4_addPart_41 (by omega) (fun h3 hm3 => ?_)
    refine a_aloadn_0 (pc := 42) dX4_addPart_42 ?_
    refine a_dup (pc := 43) dX4_addPart_43 rfl ?_
    refine tg_30 (w := tP x) hm3 rfl dX4_addPart_44 rfl ?_
    refine a_iconst (pc := 47) (v := nI 1) dX4_addPart_47 (by decide) ?_
    refine n_iadd dX4_addPart_48 ?_
    refine tp_30 (v := tP x + 1) hm3 rfl dX4_addPart_49 (fun h4 hm4 => ?_)
    refine a_aloadn_0 (pc := 52) dX4_addPart_52 ?_
    refine tg_30 (w := tP x + 1) hm4 rfl dX4_addPart_53 rfl ?_
    refine a_iconst (pc := 56) (v := nI 1) dX4_addPart_56 (by decide) ?_
    refine n_isub dX4_addPart_57 (by omega) ?_
    refine a_topi (nI (tP x)) (congrArg nI (by omega)) ?_
    exact a_iret (pc := 58) dX4_addPart_58 rfl (zf hz) (k1 hp _ hm4)
  · refine a_bipush (pc := 9) (v := nI 125) dX4_addPart_9 (by decide) ?_
    exact a_iret (pc := 11) dX4_addPart_11 rfl (zf hz) (k2 (Nat.not_lt.mpr hp))
set_option maxRecDepth 100000 in
set_option maxHeartbeats 4000000 in
theorem r_addNumber {G : Cx} {d t n p : Nat} {h h0 : List va_E} {b : Nat → Nat} {f : Int32} {x : Tx} {Q : Option Value → List va_E → Prop} (hd : 2 ≤ d) (hz : gz G = false) (hm : RS G h0 h t b n p f x) {v : Nat} (hP : tP x < 126) (k : ∀ h1, RS G h0 h1 t b n p f (xV (xP (xR (xL (xS x (va_up (tS x) (tP x) 48)) (va_up (tL x) (tP x) 0)) (va_up (tR x) (tP x) 0)) (tP x + 1)) (upd (tV x) (tP x) (nI v))) → Q (some (.int (nI (tP x)))) h1) : AM G yX4_addNumber cX4_addNumber 3 (some .int) d 0 0 [.ref (gB G + t), .int (nI (v))] h Q := by
  obtain ⟨d, rfl, he⟩ := dpos hd
  refine AM.of [some (.ref (gB G + t)), some (.int (nI (v))), none] pnX4 (Nat.le_of_ble_eq_true rfl) (by simp [lsub, lvI, Value.category]) ?_
  refine a_aloadn_0 (pc := 0) dX4_addNumber_0 ?_
  refine a_bipush (pc := 1) (v := nI 48) dX4_addNumber_1 (by decide) ?_
  refine a_iconst (pc := 3) (v := nI 0) dX4_addNumber_3 (by decide) ?_
  refine a_iconst (pc := 4) (v := nI 0) dX4_addNumber_4 (by decide) ?_
  refine cv_X4_37 (pc := 5) rfl dX4_addNumber_5 hm.tx.1 (Nat.le_of_ble_eq_true rfl) ?_
  refine r_addPart (by omega) hz hm (fun _ h2 hm2 => ?_) (fun q => absurd hP q) (by omega)
  refine a_istoren_2 (pc := 8) dX4_addNumber_8 (by decide) (by first | rfl | trivial) ?_
  refine a_aloadn_0 (pc := 9) dX4_addNumber_9 ?_
  refine tg_21 hm2 rfl dX4_addNumber_10 ?_
  refine a_iloadn_2 (pc := 13) dX4_addNumber_13 ?_
  refine a_iloadn_1 (pc := 14) dX4_addNumber_14 ?_
  refine ts_value (j := tP x) (v := nI (v)) hm2 dX4_addNumber_15 (by omega) (fun h1 hm1 => ?_)
  refine a_iloadn_2 (pc := 16) dX4_addNumber_16 ?_
  exact a_iret (pc := 17) dX4_addNumber_17 rfl (zf hz) (k _ hm1)
set_option maxRecDepth 100000 in
set_option maxHeartbeats 4000000 in
theorem r_addLine {G : Cx} {d t n p : Nat} {h h0 : List va_E} {b : Nat → Nat} {f : Int32} {x : Tx} {Q : Option Value → List va_E → Prop} (hd : 1 ≤ d) (hz : gz G = false) (hm : RS G h0 h t b n p f x) {ce : Option Nat} {z : Nat} (hN : tN x < 61) (k : ∀ h1, RS G h0 h1 t b n p f (xN (xD (xF x (va_up (tF x) (tN x) ce)) (va_up (tD x) (tN x) z)) (tN x + 1)) → Q none h1) : AM G yX4_addLine cX4_addLine 3 none d 0 0 [.ref (gB G + t), .int (oI ce), .int (nI (z))] h Q := by
  obtain ⟨d, rfl, he⟩ := dpos hd
  refine AM.of [some (.ref (gB G + t)), some (.int (oI ce)), some (.int (nI (z)))] pnX4 (Nat.le_of_ble_eq_true rfl) (by simp [lsub, lvI, Value.category]) ?_
  refine a_aloadn_0 (pc := 0) dX4_addLine_0 ?_
  refine tg_34 (w := tN x) hm rfl dX4_addLine_1 rfl ?_
  refine a_bipush (pc := 4) (v := nI 61) dX4_addLine_4 (by decide) ?_
  refine n_icmp_ge (tgt := 39) dX4_addLine_6 (by decide) (by omega) (by decide) (fun c_6 => by omega) (fun c_6 => ?_)
  refine a_aloadn_0 (pc := 9) dX4_addLine_9 ?_
  refine tg_24 hm rfl dX4_addLine_10 ?_
  refine a_aloadn_0 (pc := 13) dX4_addLine_13 ?_
  refine tg_34 (w := tN x) hm rfl dX4_addLine_14 rfl ?_
  refine a_iloadn_1 (pc := 17) dX4_addLine_17 ?_
  refine ts_first (j := tN x) (v := ce) hm dX4_addLine_18 (by omega) (fun h1 hm1 => ?_)
  refine a_aloadn_0 (pc := 19) dX4_addLine_19 ?_
  refine tg_27 hm1 rfl dX4_addLine_20 ?_
  refine a_aloadn_0 (pc := 23) dX4_addLine_23 ?_
  refine tg_34 (w := tN x) hm1 rfl dX4_addLine_24 rfl ?_
  refine a_iloadn_2 (pc := 27) dX4_addLine_27 ?_
  refine ts_second (j := tN x) (v := z) hm1 dX4_addLine_28 (by omega) (fun h2 hm2 => ?_)
  refine a_aloadn_0 (pc := 29) dX4_addLine_29 ?_
  refine a_dup (pc := 30) dX4_addLine_30 rfl ?_
  refine tg_34 (w := tN x) hm2 rfl dX4_addLine_31 rfl ?_
  refine a_iconst (pc := 34) (v := nI 1) dX4_addLine_34 (by decide) ?_
  refine n_iadd dX4_addLine_35 ?_
  refine tp_34 (v := tN x + 1) hm2 rfl dX4_addLine_36 (fun h3 hm3 => ?_)
  exact a_vret (pc := 39) dX4_addLine_39 rfl (zf hz) (k _ hm3)
set_option maxRecDepth 100000 in
set_option maxHeartbeats 4000000 in
theorem r_clear {G : Cx} {d t n p : Nat} {h h0 : List va_E} {b : Nat → Nat} {f : Int32} {x : Tx} {Q : Option Value → List va_E → Prop} (hd : 1 ≤ d) (hz : gz G = false) (hm : RS G h0 h t b n p f x) (k : ∀ h1, RS G h0 h1 t b n p f (xN (xP x 6) 0) → Q none h1) : AM G yX4_clear cX4_clear 1 none d 0 0 [.ref (gB G + t)] h Q := by
  obtain ⟨d, rfl, he⟩ := dpos hd
  refine AM.of [some (.ref (gB G + t))] pnX4 (Nat.le_of_ble_eq_true rfl) (by simp [lsub, lvI, Value.category]) ?_
  refine a_aloadn_0 (pc := 0) dX4_clear_0 ?_
  refine a_bipush (pc := 1) (v := nI 6) dX4_clear_1 (by decide) ?_
  refine tp_30 (v := 6) hm rfl dX4_clear_3 (fun h1 hm1 => ?_)
  refine a_aloadn_0 (pc := 6) dX4_clear_6 ?_
  refine a_iconst (pc := 7) (v := nI 0) dX4_clear_7 (by decide) ?_
  refine tp_34 (v := 0) hm1 rfl dX4_clear_8 (fun h2 hm2 => ?_)
  exact a_vret (pc := 11) dX4_clear_11 rfl (zf hz) (k _ hm2)
/-- what next() gives -/
def nxv (c : Nat → Nat) (n p : Nat) : Int32 := if p < n then nI (c p) else -1
theorem nxv_lt {c : Nat → Nat} {n p : Nat} (h : p < n) : nxv c n p = nI (c p) := if_pos h
theorem nxv_ge {c : Nat → Nat} {n p : Nat} (h : n ≤ p) : nxv c n p = -1 := if_neg (by omega)
/-- the tape's bytes -/
def BYC (b : Nat → Nat) (n : Nat) (c : Nat → Nat) : Prop := n ≤ 120 ∧ (∀ i, n ≤ i → c i = 0) ∧ (∀ i, c i ≤ 255) ∧ ∀ i, i < n → b i = c i
theorem nxv_eq {c : Nat → Nat} {n p K : Nat} (hc : ∀ i, n ≤ i → c i = 0) (h255 : ∀ i, c i ≤ 255) (h0 : 0 < K) (hK : K < 2147483648) : nxv c n p = nI K ↔ c p = K := by
  have h1 := h255 p
  unfold nxv
  by_cases h : p < n
  · rw [if_pos h, nI_eq (by omega) hK]
  · rw [if_neg h, hc p (by omega)]
    constructor
    · intro q
      have h2 : (nI K).toInt = (-1 : Int32).toInt := by rw [← q]
      rw [nI_toInt hK] at h2
      have : (-1 : Int32).toInt = -1 := by decide
      omega
    · intro q; omega
def lvC (c : Nat) : Int32 := if lvO c < 5 then nI (lvO c) else -1
theorem lvC_ne {c md : Nat} (h : ¬ lvO c = md) (hm : md < 5) : ¬ lvC c = nI md := by
  unfold lvC
  by_cases q : lvO c < 5
  · rw [if_pos q, nI_eq (by omega) (by omega)]; exact h
  · rw [if_neg q]
    intro z
    have h2 : (nI md).toInt = (-1 : Int32).toInt := by rw [← z]
    rw [nI_toInt (by omega)] at h2
    have : (-1 : Int32).toInt = -1 := by decide
    omega
theorem lvC_eq {c md : Nat} (h : lvO c = md) (hm : md < 5) : lvC c = nI md := by
  unfold lvC
  rw [if_pos (by omega), h]
theorem lv_out : ∀ x : Fin 256, ¬ lvO x.val < 5 → Op.lookupswitch.offset #[(37, 99), (38, 93), (42, 99), (43, 97), (45, 97), (47, 99), (60, 95), (61, 95), (62, 95), (124, 91)].toList 101 (nI x.val).toInt = 101 := by decide +kernel
theorem ctX3_icmp (c : Nat → Nat) : True := trivial
section Crows
variable {G : Cx} {y : MethodName} {cc : ByteArray} {mL : Nat} {rt : Option FieldType} {R : Room} {Z : List Frame → Array Value → State → State → Prop} {cn sn pc : Nat} {ls : List (Option Value)} {st : List Value} {h : List va_E} {c : Nat → Nat} {n p K : Nat} {off : Int} {tgt : Nat}
theorem c_icmp_eq {b : Nat → Nat} (hb : BYC b n c) (h0 : 0 < K) (hK : K < 2147483648) (hd : decode cc pc = .ok (.if_icmp .eq off, 3)) (ht : (pc : Int) + off = (tgt : Int)) (kt : c p = K → AW G y cc mL rt R Z cn sn tgt ls st h) (kf : ¬ c p = K → AW G y cc mL rt R Z cn sn (pc + 3) ls st h) : AW G y cc mL rt R Z cn sn pc ls (.int (nI K) :: .int (nxv c n p) :: st) h :=
  a_icmp_eq hd ht (fun q => kt ((nxv_eq hb.2.1 hb.2.2.1 h0 hK).mp q)) (fun q => kf (fun r => q ((nxv_eq hb.2.1 hb.2.2.1 h0 hK).mpr r)))
theorem c_icmp_ne {b : Nat → Nat} (hb : BYC b n c) (h0 : 0 < K) (hK : K < 2147483648) (hd : decode cc pc = .ok (.if_icmp .ne off, 3)) (ht : (pc : Int) + off = (tgt : Int)) (kt : ¬ c p = K → AW G y cc mL rt R Z cn sn tgt ls st h) (kf : c p = K → AW G y cc mL rt R Z cn sn (pc + 3) ls st h) : AW G y cc mL rt R Z cn sn pc ls (.int (nI K) :: .int (nxv c n p) :: st) h :=
  a_icmp_ne hd ht (fun q => kt (fun r => q ((nxv_eq hb.2.1 hb.2.2.1 h0 hK).mpr r))) (fun q => kf ((nxv_eq hb.2.1 hb.2.2.1 h0 hK).mp q))
end Crows
set_option maxRecDepth 100000 in
set_option maxHeartbeats 4000000 in
theorem r_next {G : Cx} {d t n p : Nat} {h h0 : List va_E} {b : Nat → Nat} {f : Int32} {x : Tx} {Q : Option Value → List va_E → Prop} (hd : 1 ≤ d) (hz : gz G = false) (hm : RS G h0 h t b n p f x) {c : Nat → Nat} (hb : BYC b n c) (hp9 : p < 1000) (k : Q (some (.int (nxv c n p))) h) : AM G yX3_next cX3_next 1 (some .int) d 0 0 [.ref (gB G + 16)] h Q := by
  obtain ⟨d, rfl, he⟩ := dpos hd
  refine AM.of [some (.ref (gB G + 16))] pnX3 (Nat.le_of_ble_eq_true rfl) (by simp [lsub, lvI, Value.category]) ?_
  obtain ⟨hn, hc0, h255, hbc⟩ := id hb
  rcases Nat.lt_or_ge p n with hpn | hpn
  · refine a_aloadn_0 (pc := 0) dX3_next_0 ?_
    refine rg_26 hm rfl dX3_next_1 ?_
    refine n_if_lt (tgt := 30) dX3_next_4 (by decide) (by omega) ?_
    refine a_aloadn_0 (pc := 7) dX3_next_7 ?_
    refine rg_26 hm rfl dX3_next_8 ?_
    refine a_aloadn_0 (pc := 11) dX3_next_11 ?_
    refine rg_22 hm rfl dX3_next_12 ?_
    refine n_icmp_ge (tgt := 30) dX3_next_15 (by decide) (by omega) (by omega) (fun c_15 => by omega) (fun c_15 => ?_)
    refine a_aloadn_0 (pc := 18) dX3_next_18 ?_
    refine rg_9 hm rfl dX3_next_19 ?_
    refine a_aloadn_0 (pc := 22) dX3_next_22 ?_
    refine rg_26 hm rfl dX3_next_23 ?_
    refine rl_tape (v := c p) hm dX3_next_26 (by omega) (hbc p hpn) ?_
    refine a_goto (pc := 27) (tgt := 31) dX3_next_27 (by decide) ?_
    exact a_iret (pc := 31) dX3_next_31 rfl (zf hz) (by rw [nxv_lt hpn] at k; exact k)
  · refine a_aloadn_0 (pc := 0) dX3_next_0 ?_
    refine rg_26 hm rfl dX3_next_1 ?_
    refine n_if_lt (tgt := 30) dX3_next_4 (by decide) (by omega) ?_
    refine a_aloadn_0 (pc := 7) dX3_next_7 ?_
    refine rg_26 hm rfl dX3_next_8 ?_
    refine a_aloadn_0 (pc := 11) dX3_next_11 ?_
    refine rg_22 hm rfl dX3_next_12 ?_
    refine n_icmp_ge (tgt := 30) dX3_next_15 (by decide) (by omega) (by omega) (fun c_15 => ?_) (fun c_15 => by omega)
    refine a_iconst (pc := 30) (v := (-1)) dX3_next_30 (by decide) ?_
    exact a_iret (pc := 31) dX3_next_31 rfl (zf hz) (by rw [nxv_ge hpn] at k; exact k)

set_option maxRecDepth 100000 in
set_option maxHeartbeats 4000000 in
theorem r_levelOf {G : Cx} {d n p : Nat} {h : List va_E} {b c : Nat → Nat} {Q : Option Value → List va_E → Prop} (hd : 1 ≤ d) (hz : gz G = false) (hb : BYC b n c) (k : Q (some (.int (lvC (c p)))) h) : AM G yX3_levelOf cX3_levelOf 1 (some .int) d 0 0 [.int (nxv c n p)] h Q := by
  obtain ⟨d, rfl, he⟩ := dpos hd
  refine AM.of [some (.int (nxv c n p))] pnX3 (Nat.le_of_ble_eq_true rfl) (by simp [lsub, lvI, Value.category]) ?_
  obtain ⟨hn, hc0, h255, hbc⟩ := id hb
  have h25 := h255 p
  rcases (show c p = 37 ∨ c p = 38 ∨ c p = 42 ∨ c p = 43 ∨ c p = 45 ∨ c p = 47 ∨ c p = 60 ∨ c p = 61 ∨ c p = 62 ∨ c p = 124 ∨ (¬ lvO (c p) < 5 ∧ p < n) ∨ n ≤ p by
    rcases Nat.lt_or_ge p n with q | q
    · by_cases hl : lvO (c p) < 5
      · rcases lvO_of (c := c p) rfl hl with g | g | g | g | g <;> omega
      · omega
    · omega) with hcq | hcq | hcq | hcq | hcq | hcq | hcq | hcq | hcq | hcq | ⟨hno, hpn⟩ | hpn
  · have hpn : p < n := ch_lt hc0 (by omega)
    refine a_ls (ls' := [some (.int (nI (37)))]) (by simp [lsub, nxv_lt hpn, hcq]) ?_
    refine a_iloadn_0 (pc := 0) dX3_levelOf_0 ?_
    refine a_lookup (pc := 1) (off := 99) (tgt := 100) dX3_levelOf_1 (by decide) (by decide) (by decide) ?_
    refine a_iconst (pc := 100) (v := nI 4) dX3_levelOf_100 (by decide) ?_
    exact a_iret (pc := 101) dX3_levelOf_101 rfl (zf hz) (by rw [lvC_eq (show lvO (c p) = 4 by rw [hcq]; rfl) (by decide)] at k; exact k)
  · have hpn : p < n := ch_lt hc0 (by omega)
    refine a_ls (ls' := [some (.int (nI (38)))]) (by simp [lsub, nxv_lt hpn, hcq]) ?_
    refine a_iloadn_0 (pc := 0) dX3_levelOf_0 ?_
    refine a_lookup (pc := 1) (off := 93) (tgt := 94) dX3_levelOf_1 (by decide) (by decide) (by decide) ?_
    refine a_iconst (pc := 94) (v := nI 1) dX3_levelOf_94 (by decide) ?_
    exact a_iret (pc := 95) dX3_levelOf_95 rfl (zf hz) (by rw [lvC_eq (show lvO (c p) = 1 by rw [hcq]; rfl) (by decide)] at k; exact k)
  · have hpn : p < n := ch_lt hc0 (by omega)
    refine a_ls (ls' := [some (.int (nI (42)))]) (by simp [lsub, nxv_lt hpn, hcq]) ?_
    refine a_iloadn_0 (pc := 0) dX3_levelOf_0 ?_
    refine a_lookup (pc := 1) (off := 99) (tgt := 100) dX3_levelOf_1 (by decide) (by decide) (by decide) ?_
    refine a_iconst (pc := 100) (v := nI 4) dX3_levelOf_100 (by decide) ?_
    exact a_iret (pc := 101) dX3_levelOf_101 rfl (zf hz) (by rw [lvC_eq (show lvO (c p) = 4 by rw [hcq]; rfl) (by decide)] at k; exact k)
  · have hpn : p < n := ch_lt hc0 (by omega)
    refine a_ls (ls' := [some (.int (nI (43)))]) (by simp [lsub, nxv_lt hpn, hcq]) ?_
    refine a_iloadn_0 (pc := 0) dX3_levelOf_0 ?_
    refine a_lookup (pc := 1) (off := 97) (tgt := 98) dX3_levelOf_1 (by decide) (by decide) (by decide) ?_
    refine a_iconst (pc := 98) (v := nI 3) dX3_levelOf_98 (by decide) ?_
    exact a_iret (pc := 99) dX3_levelOf_99 rfl (zf hz) (by rw [lvC_eq (show lvO (c p) = 3 by rw [hcq]; rfl) (by decide)] at k; exact k)
  · have hpn : p < n := ch_lt hc0 (by omega)
    refine a_ls (ls' := [some (.int (nI (45)))]) (by simp [lsub, nxv_lt hpn, hcq]) ?_
    refine a_iloadn_0 (pc := 0) dX3_levelOf_0 ?_
    refine a_lookup (pc := 1) (off := 97) (tgt := 98) dX3_levelOf_1 (by decide) (by decide) (by decide) ?_
    refine a_iconst (pc := 98) (v := nI 3) dX3_levelOf_98 (by decide) ?_
    exact a_iret (pc := 99) dX3_levelOf_99 rfl (zf hz) (by rw [lvC_eq (show lvO (c p) = 3 by rw [hcq]; rfl) (by decide)] at k; exact k)
  · have hpn : p < n := ch_lt hc0 (by omega)
    refine a_ls (ls' := [some (.int (nI (47)))]) (by simp [lsub, nxv_lt hpn, hcq]) ?_
    refine a_iloadn_0 (pc := 0) dX3_levelOf_0 ?_
    refine a_lookup (pc := 1) (off := 99) (tgt := 100) dX3_levelOf_1 (by decide) (by decide) (by decide) ?_
    refine a_iconst (pc := 100) (v := nI 4) dX3_levelOf_100 (by decide) ?_
    exact a_iret (pc := 101) dX3_levelOf_101 rfl (zf hz) (by rw [lvC_eq (show lvO (c p) = 4 by rw [hcq]; rfl) (by decide)] at k; exact k)
  · have hpn : p < n := ch_lt hc0 (by omega)
    refine a_ls (ls' := [some (.int (nI (60)))]) (by simp [lsub, nxv_lt hpn, hcq]) ?_
    refine a_iloadn_0 (pc := 0) dX3_levelOf_0 ?_
    refine a_lookup (pc := 1) (off := 95) (tgt := 96) dX3_levelOf_1 (by decide) (by decide) (by decide) ?_
    refine a_iconst (pc := 96) (v := nI 2) dX3_levelOf_96 (by decide) ?_
    exact a_iret (pc := 97) dX3_levelOf_97 rfl (zf hz) (by rw [lvC_eq (show lvO (c p) = 2 by rw [hcq]; rfl) (by decide)] at k; exact k)
  · have hpn : p < n := ch_lt hc0 (by omega)
    refine a_ls (ls' := [some (.int (nI (61)))]) (by simp [lsub, nxv_lt hpn, hcq]) ?_
    refine a_iloadn_0 (pc := 0) dX3_levelOf_0 ?_
    refine a_lookup (pc := 1) (off := 95) (tgt := 96) dX3_levelOf_1 (by decide) (by decide) (by decide) ?_
    refine a_iconst (pc := 96) (v := nI 2) dX3_levelOf_96 (by decide) ?_
    exact a_iret (pc := 97) dX3_levelOf_97 rfl (zf hz) (by rw [lvC_eq (show lvO (c p) = 2 by rw [hcq]; rfl) (by decide)] at k; exact k)
  · have hpn : p < n := ch_lt hc0 (by omega)
    refine a_ls (ls' := [some (.int (nI (62)))]) (by simp [lsub, nxv_lt hpn, hcq]) ?_
    refine a_iloadn_0 (pc := 0) dX3_levelOf_0 ?_
    refine a_lookup (pc := 1) (off := 95) (tgt := 96) dX3_levelOf_1 (by decide) (by decide) (by decide) ?_
    refine a_iconst (pc := 96) (v := nI 2) dX3_levelOf_96 (by decide) ?_
    exact a_iret (pc := 97) dX3_levelOf_97 rfl (zf hz) (by rw [lvC_eq (show lvO (c p) = 2 by rw [hcq]; rfl) (by decide)] at k; exact k)
  · have hpn : p < n := ch_lt hc0 (by omega)
    refine a_ls (ls' := [some (.int (nI (124)))]) (by simp [lsub, nxv_lt hpn, hcq]) ?_
    refine a_iloadn_0 (pc := 0) dX3_levelOf_0 ?_
    refine a_lookup (pc := 1) (off := 91) (tgt := 92) dX3_levelOf_1 (by decide) (by decide) (by decide) ?_
    refine a_iconst (pc := 92) (v := nI 0) dX3_levelOf_92 (by decide) ?_
    exact a_iret (pc := 93) dX3_levelOf_93 rfl (zf hz) (by rw [lvC_eq (show lvO (c p) = 0 by rw [hcq]; rfl) (by decide)] at k; exact k)
  · refine a_ls (ls' := [some (.int (nI (c p)))]) (by simp [lsub, nxv_lt hpn]) ?_
    refine a_iloadn_0 (pc := 0) dX3_levelOf_0 ?_
    refine a_lookup (pc := 1) (off := 101) (tgt := 102) dX3_levelOf_1 (by decide) (lv_out ⟨c p, by omega⟩ hno) (by decide) ?_
    refine a_iconst (pc := 102) (v := (-1)) dX3_levelOf_102 (by decide) ?_
    exact a_iret (pc := 103) dX3_levelOf_103 rfl (zf hz) (by rw [show lvC (c p) = -1 from if_neg hno] at k; exact k)
  · refine a_ls (ls' := [some (.int (-1))]) (by simp [lsub, nxv_ge hpn]) ?_
    refine a_iloadn_0 (pc := 0) dX3_levelOf_0 ?_
    refine a_lookup (pc := 1) (off := 101) (tgt := 102) dX3_levelOf_1 (by decide) (by decide) (by decide) ?_
    refine a_iconst (pc := 102) (v := (-1)) dX3_levelOf_102 (by decide) ?_
    exact a_iret (pc := 103) dX3_levelOf_103 rfl (zf hz) (by rw [show lvC (c p) = -1 from if_neg (by rw [hc0 p hpn]; decide)] at k; exact k)

set_option maxRecDepth 100000 in
set_option maxHeartbeats 4000000 in
theorem r_isDigit {G : Cx} {d n p : Nat} {h : List va_E} {b c : Nat → Nat} {Q : Option Value → List va_E → Prop} (hd : 1 ≤ d) (hz : gz G = false) (hb : BYC b n c) (k : Q (some (.int (bI (dgO (c p))))) h) : AM G yX3_isDigit cX3_isDigit 1 (some .boolean) d 0 0 [.int (nxv c n p)] h Q := by
  obtain ⟨d, rfl, he⟩ := dpos hd
  refine AM.of [some (.int (nxv c n p))] pnX3 (Nat.le_of_ble_eq_true rfl) (by simp [lsub, lvI, Value.category]) ?_
  obtain ⟨hn, hc0, h255, hbc⟩ := id hb
  have h25 := h255 p
  rcases Nat.lt_or_ge p n with hpn | hpn
  · refine a_ls (ls' := [some (.int (nI (c p)))]) (by simp [lsub, nxv_lt hpn]) ?_
    refine a_iloadn_0 (pc := 0) dX3_isDigit_0 ?_
    refine a_bipush (pc := 1) (v := nI 48) dX3_isDigit_1 (by decide) ?_
    refine n_icmp_lt (tgt := 16) dX3_isDigit_3 (by decide) (by omega) (by decide) (fun c_3 => ?_) (fun c_3 => ?_)
    · refine a_iconst (pc := 16) (v := nI 0) dX3_isDigit_16 (by decide) ?_
      refine a_zret (pc := 17) dX3_isDigit_17 rfl (by first | rfl | exact bI_nar _ | decide) (zf hz) ?_
      first | (rw [show dgO (c p) = true by simp [dgO]; omega] at k; exact k) | (rw [show dgO (c p) = false by simp [dgO]; omega] at k; exact k)
    · refine a_iloadn_0 (pc := 6) dX3_isDigit_6 ?_
      refine a_bipush (pc := 7) (v := nI 57) dX3_isDigit_7 (by decide) ?_
      refine n_icmp_gt (tgt := 16) dX3_isDigit_9 (by decide) (by omega) (by decide) (fun c_9 => ?_) (fun c_9 => ?_)
      · refine a_iconst (pc := 16) (v := nI 0) dX3_isDigit_16 (by decide) ?_
        refine a_zret (pc := 17) dX3_isDigit_17 rfl (by first | rfl | exact bI_nar _ | decide) (zf hz) ?_
        first | (rw [show dgO (c p) = true by simp [dgO]; omega] at k; exact k) | (rw [show dgO (c p) = false by simp [dgO]; omega] at k; exact k)
      · refine a_iconst (pc := 12) (v := nI 1) dX3_isDigit_12 (by decide) ?_
        refine a_goto (pc := 13) (tgt := 17) dX3_isDigit_13 (by decide) ?_
        refine a_zret (pc := 17) dX3_isDigit_17 rfl (by first | rfl | exact bI_nar _ | decide) (zf hz) ?_
        first | (rw [show dgO (c p) = true by simp [dgO]; omega] at k; exact k) | (rw [show dgO (c p) = false by simp [dgO]; omega] at k; exact k)
  · refine a_ls (ls' := [some (.int (-1))]) (by simp [lsub, nxv_ge hpn]) ?_
    refine a_iloadn_0 (pc := 0) dX3_isDigit_0 ?_
    refine a_bipush (pc := 1) (v := nI 48) dX3_isDigit_1 (by decide) ?_
    refine a_icmp_lt (pc := 3) (tgt := 16) dX3_isDigit_3 (by decide) (fun c_3 => ?_) (fun c_3 => absurd (show (-1 : Int32) < nI 48 by decide) c_3)
    refine a_iconst (pc := 16) (v := nI 0) dX3_isDigit_16 (by decide) ?_
    exact a_zret (pc := 17) dX3_isDigit_17 rfl (by first | rfl | exact bI_nar _ | decide) (zf hz) (by rw [show dgO (c p) = false by rw [hc0 p hpn]; rfl] at k; exact k)

set_option maxRecDepth 100000 in
set_option maxHeartbeats 4000000 in
theorem r_nameOf {G : Cx} {d n p : Nat} {h : List va_E} {b c : Nat → Nat} {Q : Option Value → List va_E → Prop} (hd : 1 ≤ d) (hz : gz G = false) (hb : BYC b n c) (k : Q (some (.int (oI (nmO (c p))))) h) : AM G yX3_nameOf cX3_nameOf 1 (some .int) d 0 0 [.int (nxv c n p)] h Q := by
  obtain ⟨d, rfl, he⟩ := dpos hd
  refine AM.of [some (.int (nxv c n p))] pnX3 (Nat.le_of_ble_eq_true rfl) (by simp [lsub, lvI, Value.category]) ?_
  obtain ⟨hn, hc0, h255, hbc⟩ := id hb
  have h25 := h255 p
  rcases (show c p = 100 ∨ c p = 108 ∨ c p = 103 ∨ c p = 99 ∨ c p = 119 ∨ c p = 104 ∨ (nmO (c p) = none ∧ p < n) ∨ n ≤ p by
    rcases Nat.lt_or_ge p n with q | q
    · cases hj : nmO (c p) with
      | none => simp [q]
      | some j =>
        unfold nmO at hj
        repeat (split at hj; · omega)
        cases hj
    · omega) with hcq | hcq | hcq | hcq | hcq | hcq | ⟨hno, hpn⟩ | hpn
  · have hpn : p < n := ch_lt hc0 (by omega)
    refine a_ls (ls' := [some (.int (nI (100)))]) (by simp [lsub, nxv_lt hpn, hcq]) ?_
    refine a_iloadn_0 (pc := 0) dX3_nameOf_0 ?_
    refine a_lookup (pc := 1) (off := 59) (tgt := 60) dX3_nameOf_1 (by decide) (by decide) (by decide) ?_
    refine a_iconst (pc := 60) (v := nI 0) dX3_nameOf_60 (by decide) ?_
    exact a_iret (pc := 61) dX3_nameOf_61 rfl (zf hz) (by rw [show nmO (c p) = some 0 by rw [hcq]; rfl] at k; exact k)
  · have hpn : p < n := ch_lt hc0 (by omega)
    refine a_ls (ls' := [some (.int (nI (108)))]) (by simp [lsub, nxv_lt hpn, hcq]) ?_
    refine a_iloadn_0 (pc := 0) dX3_nameOf_0 ?_
    refine a_lookup (pc := 1) (off := 61) (tgt := 62) dX3_nameOf_1 (by decide) (by decide) (by decide) ?_
    refine a_iconst (pc := 62) (v := nI 1) dX3_nameOf_62 (by decide) ?_
    exact a_iret (pc := 63) dX3_nameOf_63 rfl (zf hz) (by rw [show nmO (c p) = some 1 by rw [hcq]; rfl] at k; exact k)
  · have hpn : p < n := ch_lt hc0 (by omega)
    refine a_ls (ls' := [some (.int (nI (103)))]) (by simp [lsub, nxv_lt hpn, hcq]) ?_
    refine a_iloadn_0 (pc := 0) dX3_nameOf_0 ?_
    refine a_lookup (pc := 1) (off := 63) (tgt := 64) dX3_nameOf_1 (by decide) (by decide) (by decide) ?_
    refine a_iconst (pc := 64) (v := nI 2) dX3_nameOf_64 (by decide) ?_
    exact a_iret (pc := 65) dX3_nameOf_65 rfl (zf hz) (by rw [show nmO (c p) = some 2 by rw [hcq]; rfl] at k; exact k)
  · have hpn : p < n := ch_lt hc0 (by omega)
    refine a_ls (ls' := [some (.int (nI (99)))]) (by simp [lsub, nxv_lt hpn, hcq]) ?_
    refine a_iloadn_0 (pc := 0) dX3_nameOf_0 ?_
    refine a_lookup (pc := 1) (off := 65) (tgt := 66) dX3_nameOf_1 (by decide) (by decide) (by decide) ?_
    refine a_iconst (pc := 66) (v := nI 3) dX3_nameOf_66 (by decide) ?_
    exact a_iret (pc := 67) dX3_nameOf_67 rfl (zf hz) (by rw [show nmO (c p) = some 3 by rw [hcq]; rfl] at k; exact k)
  · have hpn : p < n := ch_lt hc0 (by omega)
    refine a_ls (ls' := [some (.int (nI (119)))]) (by simp [lsub, nxv_lt hpn, hcq]) ?_
    refine a_iloadn_0 (pc := 0) dX3_nameOf_0 ?_
    refine a_lookup (pc := 1) (off := 67) (tgt := 68) dX3_nameOf_1 (by decide) (by decide) (by decide) ?_
    refine a_iconst (pc := 68) (v := nI 4) dX3_nameOf_68 (by decide) ?_
    exact a_iret (pc := 69) dX3_nameOf_69 rfl (zf hz) (by rw [show nmO (c p) = some 4 by rw [hcq]; rfl] at k; exact k)
  · have hpn : p < n := ch_lt hc0 (by omega)
    refine a_ls (ls' := [some (.int (nI (104)))]) (by simp [lsub, nxv_lt hpn, hcq]) ?_
    refine a_iloadn_0 (pc := 0) dX3_nameOf_0 ?_
    refine a_lookup (pc := 1) (off := 69) (tgt := 70) dX3_nameOf_1 (by decide) (by decide) (by decide) ?_
    refine a_iconst (pc := 70) (v := nI 5) dX3_nameOf_70 (by decide) ?_
    exact a_iret (pc := 71) dX3_nameOf_71 rfl (zf hz) (by rw [show nmO (c p) = some 5 by rw [hcq]; rfl] at k; exact k)
  · refine a_ls (ls' := [some (.int (nI (c p)))]) (by simp [lsub, nxv_lt hpn]) ?_
    refine a_iloadn_0 (pc := 0) dX3_nameOf_0 ?_
    refine a_lookup (pc := 1) (off := 71) (tgt := 72) dX3_nameOf_1 (by decide) (nm_out ⟨c p, by omega⟩ hno) (by decide) ?_
    refine a_iconst (pc := 72) (v := (-1)) dX3_nameOf_72 (by decide) ?_
    exact a_iret (pc := 73) dX3_nameOf_73 rfl (zf hz) (by rw [hno] at k; exact k)
  · refine a_ls (ls' := [some (.int (-1))]) (by simp [lsub, nxv_ge hpn]) ?_
    refine a_iloadn_0 (pc := 0) dX3_nameOf_0 ?_
    refine a_lookup (pc := 1) (off := 71) (tgt := 72) dX3_nameOf_1 (by decide) (by decide) (by decide) ?_
    refine a_iconst (pc := 72) (v := (-1)) dX3_nameOf_72 (by decide) ?_
    exact a_iret (pc := 73) dX3_nameOf_73 rfl (zf hz) (by rw [show nmO (c p) = none by rw [hc0 p hpn]; rfl] at k; exact k)

