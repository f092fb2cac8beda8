section More
variable {G : Cx} {y : MethodName} {cc : ByteArray} {mL : Nat} {rt : Option FieldType} {Z : List Frame → Array Value → State → State → Prop} {cn sn pc d mc ms idx : Nat} {ls : List (Option Value)} {st : List Value} {h : List va_E}
theorem a_mmaxR {x z : Int32} (hd : decode cc pc = .ok (.invokestatic idx, 3)) (hw : Cond.methodLink y.cls idx Lib.Math.max.name ∈ gT) (hW : (st.map fun v => v.category).sum ≤ 8) (kk : AW G y cc mL rt (rmx (d + 1) mc ms) Z cn sn (pc + 3) ls (.int (if x < z then z else x) :: st) h) : AW G y cc mL rt (rmx (d + 1) mc ms) Z cn sn pc ls (.int z :: .int x :: st) h :=
  a_mmax hd hw ⟨by show 1 ≤ d + 1; omega, by show _ ≤ 64 * (d + 1); omega⟩ kk
theorem a_mminR {x z : Int32} (hd : decode cc pc = .ok (.invokestatic idx, 3)) (hw : Cond.methodLink y.cls idx Lib.Math.min.name ∈ gT) (hW : (st.map fun v => v.category).sum ≤ 8) (kk : AW G y cc mL rt (rmx (d + 1) mc ms) Z cn sn (pc + 3) ls (.int (if z < x then z else x) :: st) h) : AW G y cc mL rt (rmx (d + 1) mc ms) Z cn sn pc ls (.int z :: .int x :: st) h :=
  a_mmin hd hw ⟨by show 1 ≤ d + 1; omega, by show _ ≤ 64 * (d + 1); omega⟩ kk
theorem a_objInitR {a : Nat} (hd : decode cc pc = .ok (.invokespecial idx, 3)) (hw : Cond.methodLink y.cls idx objectInit ∈ gT) (hW : (st.map fun v => v.category).sum ≤ 8) (kk : AW G y cc mL rt (rmx (d + 1) mc ms) Z cn sn (pc + 3) ls st h) : AW G y cc mL rt (rmx (d + 1) mc ms) Z cn sn pc ls (.ref a :: st) h :=
  a_objInit hd hw ⟨by show 1 ≤ d + 1; omega, by show _ ≤ 64 * (d + 1); omega⟩ kk
theorem a_copyiR {q0 q1 n0 n1 : Nat} {f g : Nat → Int32} {a b k : Int32} (sp dp n : Nat) (hd : decode cc pc = .ok (.invokestatic idx, 3)) (hw : Cond.methodLink y.cls idx arraycopyName ∈ gT) (hn0 : n0 < 65536) (hn1 : n1 < 65536) (ha : a = nI sp) (hb : b = nI dp) (hk : k = nI n) (h4 : sp + n ≤ n0) (h5 : dp + n ≤ n1) (hq0 : h[q0]? = some (.inl (gc G 0, n0, .inl f))) (hq1 : h[q1]? = some (.inl (gc G 0, n1, .inl g))) (hW : (st.map fun v => v.category).sum ≤ 8)
    (kk : AW G y cc mL rt (rmx (d + 1) mc ms) Z cn sn (pc + 3) ls st (h.set q1 (.inl (gc G 0, n1, .inl (va_cpy f g sp dp n))))) : AW G y cc mL rt (rmx (d + 1) mc ms) Z cn sn pc ls (.int k :: .int b :: .ref (gB G + q1) :: .int a :: .ref (gB G + q0) :: st) h :=
  a_copyi sp dp n hd hw hn0 hn1 ha hb hk h4 h5 hq0 hq1 ⟨by show 1 ≤ d + 1; omega, by show _ ≤ 64 * (d + 1); omega⟩ kk
theorem a_copylR {q0 q1 n0 n1 : Nat} {f g : Nat → Int64} {a b k : Int32} (sp dp n : Nat) (hd : decode cc pc = .ok (.invokestatic idx, 3)) (hw : Cond.methodLink y.cls idx arraycopyName ∈ gT) (hn0 : n0 < 65536) (hn1 : n1 < 65536) (ha : a = nI sp) (hb : b = nI dp) (hk : k = nI n) (h4 : sp + n ≤ n0) (h5 : dp + n ≤ n1) (hq0 : h[q0]? = some (.inl (gc G 1, n0, .inr (.inl f)))) (hq1 : h[q1]? = some (.inl (gc G 1, n1, .inr (.inl g)))) (hW : (st.map fun v => v.category).sum ≤ 8)
    (kk : AW G y cc mL rt (rmx (d + 1) mc ms) Z cn sn (pc + 3) ls st (h.set q1 (.inl (gc G 1, n1, .inr (.inl (va_cpy f g sp dp n)))))) : AW G y cc mL rt (rmx (d + 1) mc ms) Z cn sn pc ls (.int k :: .int b :: .ref (gB G + q1) :: .int a :: .ref (gB G + q0) :: st) h :=
  a_copyl sp dp n hd hw hn0 hn1 ha hb hk h4 h5 hq0 hq1 ⟨by show 1 ≤ d + 1; omega, by show _ ≤ 64 * (d + 1); omega⟩ kk
theorem a_ldcw {R : Room} {index : Nat} {v : Int32} (hd : decode cc pc = .ok (.ldc_w index, 3)) (hw : Cond.constant y.cls index v ∈ gT) (k : AW G y cc mL rt R Z cn sn (pc + 3) ls (.int v :: st) h) : AW G y cc mL rt R Z cn sn pc ls st h :=
  fun hc hs p e s m args below meth c F H locs lv hR hS hz hl => lv_ldcw F.1 F.2.1 F.2.2.2.2.1 (F.2.2.2.2.2.1 _ hw) hd (k hc hs p e s m args below meth c F H locs lv hR hS hz hl)
end More
theorem nI_le0 {x : Nat} (hx : x < 2147483648) : nI x ≤ 0 ↔ x = 0 := by
  rw [show (0 : Int32) = nI 0 from rfl, nI_leI hx (by decide)]
  omega
theorem mmin_nI {a b : Nat} (ha : a < 2147483648) (hb : b < 2147483648) : (if nI b < nI a then nI b else nI a) = nI (min a b) := by
  by_cases h : b < a
  · rw [if_pos ((nI_ltI hb ha).mpr h), Nat.min_eq_right (by omega)]
  · rw [if_neg (fun q => h ((nI_ltI hb ha).mp q)), Nat.min_eq_left (by omega)]
theorem mmax_nI {a b : Nat} (ha : a < 2147483648) (hb : b < 2147483648) : (if nI a < nI b then nI b else nI a) = nI (max a b) := by
  by_cases h : a < b
  · rw [if_pos ((nI_ltI ha hb).mpr h), Nat.max_eq_right (by omega)]
  · rw [if_neg (fun q => h ((nI_ltI ha hb).mp q)), Nat.max_eq_left (by omega)]
theorem wx_up (w : Nat → Nat) (r x : Nat) : va_up (fun r => decide (0 < w r)) r (decide (0 < x)) = fun r' => decide (0 < va_up w r x r') := by
  funext j
  unfold va_up
  by_cases e : j = r <;> simp [e]
