/-! rows that read and write the heap, calls, returns -/
theorem stZ_move {G : Cx} {s U : State} (h : stZ G s) (hvm : s.vm.Alike U.vm) (hk : ∀ q : Nat, q < s.heap.size → ¬ gA G q → U.heap[q]? = s.heap[q]?) : stZ G U :=
  ⟨fun i hi => ⟨((h.1 i hi).1.moved hvm).kept hk, ((h.1 i hi).2.moved hvm).kept hk⟩, ⟨(h.2.1.1.moved hvm).kept hk, (h.2.1.2.moved hvm).kept hk⟩, (h.2.2.moved hvm).kept hk⟩
theorem nW_warm {s U : State} (h : nW s) (hW : s.WarmedH U.vm) : nW U :=
  ⟨fun q hq => (h.1 q hq).warmM hW, fun q hq => (h.2.1 q hq).warmF hW, h.2.2.1.moved hW.alike, h.2.2.2.moved hW.alike⟩
theorem Sur_move {G : Cx} {s U : State} {H : Heap} {locs : List Loc} (h : Sur G s) (hS : va_S (gA G) s.heap H locs) (hU : U.heap = H) (hW : s.WarmedH U.vm) : Sur G U := by
  subst hU
  exact ⟨Nat.le_trans h.1 hS.1, va_K.moved hW.alike h.2.1, stZ_move h.2.2.1 hW.alike hS.2.1, nW_warm h.2.2.2 hW⟩
theorem Sur_calling {G : Cx} {U : State} {g : JFrame} {mk : MethodId} {a : Array Value} (h : Sur G U) : Sur G (U.calling g mk a) :=
  ⟨h.1, va_K.moved (u := U) (U := U.calling g mk a) (Vm.Alike.refl U.vm) h.2.1, stZ_move (s := U) (U := U.calling g mk a) h.2.2.1 (Vm.Alike.refl U.vm) (fun _ _ _ => rfl),
    ⟨fun q hq => va_Nw.same rfl rfl (h.2.2.2.1 q hq), fun q hq => va_Nw.same rfl rfl (h.2.2.2.2.1 q hq), h.2.2.2.2.2.1.moved (Vm.Alike.refl U.vm), h.2.2.2.2.2.2.moved (Vm.Alike.refl U.vm)⟩⟩
theorem APre_blind {G : Cx} {vs : List Value} {h : List va_E} : FrameBlind (APre G vs h) := fun _ _ _ _ q => ⟨q.1, Sur_calling q.2.1, q.2.2⟩
def pv : Option Value → List Value → List Value
  | none, st => st
  | some v, st => v :: st
theorem pv_eq (v : Option Value) (st : List Value) : v.toList ++ st = pv v st := by cases v <;> rfl
/-- what a call's words are, but for the link -/
def CF (y' : MethodName) (cc' : ByteArray) (mL' : Nat) (rt' : Option FieldType) (n : Nat) : Prop :=
  Cond.initialized y'.cls ∈ gT ∧ Cond.code y' cc' mL' rt' ∈ gT ∧ mL' ≤ 40 ∧ (y'.cls ≠ "java/lang/invoke/MethodHandle" ∧ y'.cls ≠ "java/lang/invoke/VarHandle" ∧ (parseMethodDescriptor y'.desc).map (fun d => d.parameters.length) = some n)
section Core
variable {G : Cx} {y : MethodName} {cc : ByteArray} {mL : Nat} {rt : Option FieldType} {R : Room} {Z : List Frame → Array Value → State → State → Prop} {cn sn pc : Nat} {ls : List (Option Value)} {st : List Value} {h : List va_E}
variable {p : Program} {e : Env} {s : State} {m : MethodId} {args : Array Value} {below : List Frame} {meth : Method} {c : Code} {H : Heap} {locs : List Loc} {lv : Array Slot}
theorem RH_size {T : State} (hSur : Sur G s) (X : Stand p (gl G) e R s m args below meth c T locs cn sn) (hT : T.heap = H) (hR : RH G h H) (hS : va_S (gA G) s.heap H locs) (hz : gz G = true → s.heap.size + cn = gB G + h.length) : gz G = true → H.size = gB G + h.length := by
  intro q
  have h1 : T.heap.size ≤ s.heap.size + cn := X.same.2.2.1
  rw [hT] at h1
  have h2 : gB G + h.length ≤ H.size := by
    cases hl : h.length with
    | zero => exact Nat.le_trans hSur.1 hS.1
    | succ n =>
      have hlt : n < h.length := by omega
      have h3 := hR.1 n _ (wz_get (B := gB G) (List.getElem?_eq_getElem hlt))
      have h4 := h3.lt
      dsimp only at h4
      omega
  have := hz q
  omega
theorem a_fin {mc' ms' n : Nat} {Q' : Option Value → List va_E → Prop} {rest st0 : List Value} {a : Array Value} (hr : va_Run p (gl G) e R s m args below meth c H locs cn sn mc' ms' (F0 m pc lv st0) rest (AQ G n Q' a) (gA G)) (hS : va_S (gA G) s.heap H locs) {Q : State → Prop}
    (kk : ∀ (v : Option Value) (h' : List va_E), Q' v h' → (gz G = true → h'.length = n) → ∀ (H1 : Heap) (locs1 : List Loc), RH G h' H1 → va_S (gA G) s.heap H1 locs1 → W p (gl G) e R s m args below meth c H1 locs1 (cn + mc') (sn + ms') Q (F0 m (pc + 3) lv (pv v rest))) : W p (gl G) e R s m args below meth c H locs cn sn Q (F0 m pc lv st0) := by
  intro T hT X
  obtain ⟨v, st₀, t, T', L, h0, X', hL, e1, e2, ⟨v', h', hv, hq, hR', hz', hF⟩, hst⟩ := hr T hT X
  cases hv
  obtain ⟨hz1, hk1⟩ := hF
  rw [h0] at hz1 hk1
  obtain ⟨t2, a1, b1⟩ := kk v h' hq hz' T'.heap (locs ++ L) (by rw [e1]; exact hR') ⟨Nat.le_trans hS.1 (by rw [e1]; exact hz1), fun q g1 g2 => by rw [e1, hk1 q (Nat.lt_of_lt_of_le g1 hS.1) g2]; exact hS.2.1 q g1 g2, fun q hq => by
      rcases List.mem_append.mp hq with g | g
      · exact hS.2.2 q g
      · exact hL q g⟩ T' rfl X'
  rw [← pv_eq] at a1
  exact ⟨t2, hst t2 a1, b1⟩
end Core
section Heap
variable {G : Cx} {y : MethodName} {cc : ByteArray} {mL : Nat} {rt : Option FieldType} {R : Room} {Z : List Frame → Array Value → State → State → Prop} {cn sn pc : Nat} {ls : List (Option Value)} {st : List Value} {h : List va_E}
theorem a_getf {ci k N idx q : Nat} {C : String} {T : u_T} {fs : List Value} {v : Value} (hd : decode cc pc = .ok (.getfield idx, 3)) (hw : Cond.fieldLink y.cls idx (T k).1 (T k).2.1 (T k).2.2.1 ∈ gT) (hci : vwCl[ci]? = some (C, T, N)) (hin : ∀ w ∈ u_ws C T N, w ∈ gT) (hk : k < N) (hq : h[q]? = some (.inr (ci, fs))) (hv : fs[k]? = some v)
    (kk : AW G y cc mL rt R Z cn sn (pc + 3) ls (v :: st) h) : AW G y cc mL rt R Z cn sn pc ls (.ref (gB G + q) :: st) h :=
  fun hc hs p e s m args below meth c F H locs lv hR hS hz hl => va_get (D := gD G) (ci := ci) F.1 F.2.1 F.2.2.2.2.2.1 hin F.2.2.2.2.1 F.2.2.2.2.2.2.2.2.2.1 hR.1 q (wz_get hq) hci k hk (F.2.2.2.2.2.1 _ hw) (fun _ h9 => h9) hv hd (kk hc hs p e s m args below meth c F H locs lv hR hS hz hl)
theorem a_putf {ci k N idx q : Nat} {C : String} {T : u_T} {ty0 : Nat → FieldType} {ty : FieldType} {fs : List Value} {v : Value} (hd : decode cc pc = .ok (.putfield idx, 3)) (hw : Cond.fieldLink y.cls idx (T k).1 (T k).2.1 (T k).2.2.1 ∈ gT) (hci : vwCl[ci]? = some (C, T, N)) (hin : ∀ w ∈ u_ws C T N, w ∈ gT) (hty : ∀ k, k < N → parseFieldDescriptor (T k).2.2.1 = some (ty0 k)) (hnm : ∀ a, a < N → ∀ b, b < N → a ≠ b → (T a).2.1 ≠ (T b).2.1) (hk : k < N) (hf : (T k).2.2.2 = false) (hd2 : parseFieldDescriptor (T k).2.2.1 = some ty) (hn : narrow ty v = v) (hfit : fits ty v = true) (hq : h[q]? = some (.inr (ci, fs))) (hl2 : k < fs.length)
    (kk : AW G y cc mL rt R Z cn sn (pc + 3) ls st (h.set q (.inr (ci, fs.set k v)))) : AW G y cc mL rt R Z cn sn pc ls (v :: .ref (gB G + q) :: st) h :=
  fun hc hs p e s m args below meth c F H locs lv hR hS hz hl => va_put (D := gD G) (ci := ci) (ty := ty) F.1 F.2.1 F.2.2.2.2.2.1 hin ty0 hty hnm F.2.2.2.2.1 F.2.2.2.2.2.2.2.2.2.1 hR.1 hR.2 hS q (wz_get hq) hci k hk (F.2.2.2.2.2.1 _ hw) (fun _ h9 => h9) hf hd2 hn hfit hl2 hd
    (fun H1 locs1 hP hD hS1 => kk hc hs p e s m args below meth c F H1 locs1 lv ⟨by rw [wz_set] at hP; exact hP, by rw [wz_set] at hD; exact hD⟩ hS1 (by rw [List.length_set]; exact hz) hl)
theorem a_putF {ci k N idx q : Nat} {C : String} {T : u_T} {ty0 : Nat → FieldType} {ty : FieldType} {fs : List Value} {v : Value} (hd : decode cc pc = .ok (.putfield idx, 3)) (hw : Cond.fieldLink y.cls idx (T k).1 (T k).2.1 (T k).2.2.1 ∈ gT) (hci : vwCl[ci]? = some (C, T, N)) (hin : ∀ w ∈ u_ws C T N, w ∈ gT) (hty : ∀ k, k < N → parseFieldDescriptor (T k).2.2.1 = some (ty0 k)) (hnm : ∀ a, a < N → ∀ b, b < N → a ≠ b → (T a).2.1 ≠ (T b).2.1) (hk : k < N) (hf : (T k).2.2.2 = true) (hi : y.name = "<init>") (ho : (T k).1 = y.cls) (hd2 : parseFieldDescriptor (T k).2.2.1 = some ty) (hn : narrow ty v = v) (hfit : fits ty v = true) (hq : h[q]? = some (.inr (ci, fs))) (hl2 : k < fs.length)
    (kk : AW G y cc mL rt R Z cn sn (pc + 3) ls st (h.set q (.inr (ci, fs.set k v)))) : AW G y cc mL rt R Z cn sn pc ls (v :: .ref (gB G + q) :: st) h :=
  fun hc hs p e s m args below meth c F H locs lv hR hS hz hl => va_putF (D := gD G) (ci := ci) (ty := ty) F.1 F.2.1 F.2.2.2.2.2.1 hin ty0 hty hnm F.2.2.2.2.1 F.2.2.2.2.2.2.2.2.2.1 hR.1 hR.2 hS q (wz_get hq) hci k hk (F.2.2.2.2.2.1 _ hw) (fun _ h9 => h9) hf (F.2.2.2.2.2.2.2.1.trans hi) ho hd2 hn hfit hl2 hd
    (fun H1 locs1 hP hD hS1 => kk hc hs p e s m args below meth c F H1 locs1 lv ⟨by rw [wz_set] at hP; exact hP, by rw [wz_set] at hD; exact hD⟩ hS1 (by rw [List.length_set]; exact hz) hl)
theorem a_iald {q n : Nat} {f : Nat → Int32} {i : Int32} (j : Nat) (hd : decode cc pc = .ok (.iaload, 1)) (he : i = nI j) (hj : j < n) (hn : n < 2147483648) (hq : h[q]? = some (.inl (gc G 0, n, .inl f)))
    (kk : AW G y cc mL rt R Z cn sn (pc + 1) ls (.int (f j) :: st) h) : AW G y cc mL rt R Z cn sn pc ls (.int i :: .ref (gB G + q) :: st) h :=
  fun hc hs p e s m args below meth c F H locs lv hR hS hz hl => by
    subst he
    refine va_iald (D := gD G) F.1 F.2.1 F.2.2.2.2.2.2.2.2.2.1 hR.1 q 0 (wz_get hq) rfl (vp_in_nI hj hn) hd ?_
    rw [nI_clamp (Nat.lt_trans hj hn)]
    exact kk hc hs p e s m args below meth c F H locs lv hR hS hz hl
theorem a_lald {q n : Nat} {f : Nat → Int64} {i : Int32} (j : Nat) (hd : decode cc pc = .ok (.laload, 1)) (he : i = nI j) (hj : j < n) (hn : n < 2147483648) (hq : h[q]? = some (.inl (gc G 1, n, .inr (.inl f))))
    (kk : AW G y cc mL rt R Z cn sn (pc + 1) ls (.long (f j) :: st) h) : AW G y cc mL rt R Z cn sn pc ls (.int i :: .ref (gB G + q) :: st) h :=
  fun hc hs p e s m args below meth c F H locs lv hR hS hz hl => by
    subst he
    refine va_lald (D := gD G) F.1 F.2.1 F.2.2.2.2.2.2.2.2.2.1 hR.1 q 1 (wz_get hq) rfl (vp_in_nI hj hn) hd ?_
    rw [nI_clamp (Nat.lt_trans hj hn)]
    exact kk hc hs p e s m args below meth c F H locs lv hR hS hz hl
theorem a_bald {q n : Nat} {f : Nat → Int32} {i : Int32} (j : Nat) (hd : decode cc pc = .ok (.baload, 1)) (he : i = nI j) (hj : j < n) (hn : n < 2147483648) (hq : h[q]? = some (.inl (gc G 2, n, .inl f)))
    (kk : AW G y cc mL rt R Z cn sn (pc + 1) ls (.int (f j) :: st) h) : AW G y cc mL rt R Z cn sn pc ls (.int i :: .ref (gB G + q) :: st) h :=
  fun hc hs p e s m args below meth c F H locs lv hR hS hz hl => by
    subst he
    refine va_zald (D := gD G) F.1 F.2.1 F.2.2.2.2.2.2.2.2.2.1 hR.1 q 2 (wz_get hq) rfl (vp_in_nI hj hn) hd ?_
    rw [nI_clamp (Nat.lt_trans hj hn)]
    exact kk hc hs p e s m args below meth c F H locs lv hR hS hz hl
theorem a_iast {q n : Nat} {f : Nat → Int32} {i x : Int32} (j : Nat) (hd : decode cc pc = .ok (.iastore, 1)) (he : i = nI j) (hj : j < n) (hn : n < 2147483648) (hq : h[q]? = some (.inl (gc G 0, n, .inl f)))
    (kk : AW G y cc mL rt R Z cn sn (pc + 1) ls st (h.set q (.inl (gc G 0, n, .inl (upd f j x))))) : AW G y cc mL rt R Z cn sn pc ls (.int x :: .int i :: .ref (gB G + q) :: st) h :=
  fun hc hs p e s m args below meth c F H locs lv hR hS hz hl => by
    subst he
    refine va_iast (D := gD G) F.1 F.2.1 F.2.2.2.2.2.2.2.2.2.1 hR.1 hR.2 hS q 0 (wz_get hq) rfl (vp_in_nI hj hn) hd (fun H1 locs1 hP hD hS1 => ?_)
    rw [nI_clamp (Nat.lt_trans hj hn), wz_set] at hP hD
    exact kk hc hs p e s m args below meth c F H1 locs1 lv ⟨hP, hD⟩ hS1 (by rw [List.length_set]; exact hz) hl
theorem a_last {q n : Nat} {f : Nat → Int64} {i : Int32} {x : Int64} (j : Nat) (hd : decode cc pc = .ok (.lastore, 1)) (he : i = nI j) (hj : j < n) (hn : n < 2147483648) (hq : h[q]? = some (.inl (gc G 1, n, .inr (.inl f))))
    (kk : AW G y cc mL rt R Z cn sn (pc + 1) ls st (h.set q (.inl (gc G 1, n, .inr (.inl (vp_updL f j x)))))) : AW G y cc mL rt R Z cn sn pc ls (.long x :: .int i :: .ref (gB G + q) :: st) h :=
  fun hc hs p e s m args below meth c F H locs lv hR hS hz hl => by
    subst he
    refine va_last (D := gD G) F.1 F.2.1 F.2.2.2.2.2.2.2.2.2.1 hR.1 hR.2 hS q 1 (wz_get hq) rfl (vp_in_nI hj hn) hd (fun H1 locs1 hP hD hS1 => ?_)
    rw [nI_clamp (Nat.lt_trans hj hn), wz_set] at hP hD
    exact kk hc hs p e s m args below meth c F H1 locs1 lv ⟨hP, hD⟩ hS1 (by rw [List.length_set]; exact hz) hl
theorem a_bast {q n : Nat} {f : Nat → Int32} {i x x' : Int32} (j : Nat) (hd : decode cc pc = .ok (.bastore, 1)) (he : i = nI j) (hj : j < n) (hn : n < 2147483648) (hx : vp_nar .boolean x = x') (hq : h[q]? = some (.inl (gc G 2, n, .inl f)))
    (kk : AW G y cc mL rt R Z cn sn (pc + 1) ls st (h.set q (.inl (gc G 2, n, .inl (upd f j x'))))) : AW G y cc mL rt R Z cn sn pc ls (.int x :: .int i :: .ref (gB G + q) :: st) h :=
  fun hc hs p e s m args below meth c F H locs lv hR hS hz hl => by
    subst he
    subst hx
    refine va_zast (D := gD G) F.1 F.2.1 F.2.2.2.2.2.2.2.2.2.1 hR.1 hR.2 hS q 2 (wz_get hq) rfl (vp_in_nI hj hn) hd (fun H1 locs1 hP hD hS1 => ?_)
    rw [nI_clamp (Nat.lt_trans hj hn), wz_set] at hP hD
    exact kk hc hs p e s m args below meth c F H1 locs1 lv ⟨hP, hD⟩ hS1 (by rw [List.length_set]; exact hz) hl
/-- t: 3 an array of cities, 4 of shelves -/
theorem a_aald {q n : Nat} {f : Nat → Option Nat} {i : Int32} {a : Nat} {C : String} (t j : Nat) (hd : decode cc pc = .ok (.aaload, 1)) (he : i = nI j) (hj : j < n) (hn : n < 2147483648) (ht : (gty G)[t]? = some (gc G t, .object C)) (hq : h[q]? = some (.inl (gc G t, n, .inr (.inr (.inr (.inr f)))))) (hf : f j = some a)
    (kk : AW G y cc mL rt R Z cn sn (pc + 1) ls (.ref a :: st) h) : AW G y cc mL rt R Z cn sn pc ls (.int i :: .ref (gB G + q) :: st) h :=
  fun hc hs p e s m args below meth c F H locs lv hR hS hz hl => by
    subst he
    refine va_aldq (D := gD G) F.1 F.2.1 F.2.2.2.2.2.2.2.2.2.1 hR.1 q t (wz_get hq) ht (vp_in_nI hj hn) hd ?_
    rw [nI_clamp (Nat.lt_trans hj hn), hf]
    exact kk hc hs p e s m args below meth c F H locs lv hR hS hz hl
theorem a_aast {q n v ci : Nat} {f : Nat → Option Nat} {fs : List Value} {r : vw_C} {i : Int32} (t j : Nat) (hd : decode cc pc = .ok (.aastore, 1)) (he : i = nI j) (hj : j < n) (hn : n < 2147483648) (ht : (gty G)[t]? = some (gc G t, .object r.1)) (hq : h[q]? = some (.inl (gc G t, n, .inr (.inr (.inr (.inr f)))))) (hv : h[v]? = some (.inr (ci, fs))) (hci : vwCl[ci]? = some r)
    (kk : AW G y cc mL rt R Z cn sn (pc + 1) ls st (h.set q (.inl (gc G t, n, .inr (.inr (.inr (.inr (va_up f j (some (gB G + v)))))))))) : AW G y cc mL rt R Z cn sn pc ls (.ref (gB G + v) :: .int i :: .ref (gB G + q) :: st) h :=
  fun hc hs p e s m args below meth c F H locs lv hR hS hz hl => by
    subst he
    refine va_astq (D := gD G) F.1 F.2.1 F.2.2.2.2.2.2.2.2.2.1 hR.1 hR.2 hS q t v ci (wz_get hq) ht (wz_get hv) hci (vp_in_nI hj hn) hd (fun H1 locs1 hP hD hS1 => ?_)
    rw [nI_clamp (Nat.lt_trans hj hn), wz_set] at hP hD
    exact kk hc hs p e s m args below meth c F H1 locs1 lv ⟨hP, hD⟩ hS1 (by rw [List.length_set]; exact hz) hl
/-- the static arrays -/
theorem a_gets {idx i : Nat} {nm : String} (hi : i < 5) (hd : decode cc pc = .ok (.getstatic idx, 3)) (hnm : (sC i).2 = nm) (hw : Cond.fieldLink y.cls idx (sC i).1 nm "[I" ∈ gT)
    (kk : AW G y cc mL rt R Z cn sn (pc + 3) ls (.ref (gs G i) :: st) h) : AW G y cc mL rt R Z cn sn pc ls st h :=
  fun hc hs p e s m args below meth c F H locs lv hR hS hz hl => by
    subst hnm
    exact va_gets F.1 F.2.1 (F.2.2.2.2.2.2.2.2.2.2.1.1 i hi).1 hS F.2.2.2.2.1 (F.2.2.2.2.2.1 _ hw) (fun _ h9 => h9) hd (kk hc hs p e s m args below meth c F H locs lv hR hS hz hl)
theorem a_getsB {idx : Nat} (hd : decode cc pc = .ok (.getstatic idx, 3)) (hw : Cond.fieldLink y.cls idx RX0 "BESIDE" "[J" ∈ gT)
    (kk : AW G y cc mL rt R Z cn sn (pc + 3) ls (.ref (gs G 5) :: st) h) : AW G y cc mL rt R Z cn sn pc ls st h :=
  fun hc hs p e s m args below meth c F H locs lv hR hS hz hl => va_gets F.1 F.2.1 F.2.2.2.2.2.2.2.2.2.2.1.2.1.1 hS F.2.2.2.2.1 (F.2.2.2.2.2.1 _ hw) (fun _ h9 => h9) hd (kk hc hs p e s m args below meth c F H locs lv hR hS hz hl)
theorem a_getsN {idx i : Nat} {nm host : String} (hi : i < 5) (hd : decode cc pc = .ok (.getstatic idx, 3)) (hnm : (sC i).2 = nm) (hw : (y.cls, idx, (sC i).1, nm, "[I", host) ∈ nF)
    (kk : AW G y cc mL rt R Z cn sn (pc + 3) ls (.ref (gs G i) :: st) h) : AW G y cc mL rt R Z cn sn pc ls st h :=
  fun hc hs p e s m args below meth c F H locs lv hR hS hz hl => by
    subst hnm
    exact va_getsN F.1 F.2.1 (F.2.2.2.2.2.2.2.2.2.2.1.1 i hi).1 hS F.2.2.2.2.1 (va_Nw.use rfl (F.2.2.2.2.2.2.2.2.2.2.2.2.1 _ hw)) (fun _ h9 => h9) hd (kk hc hs p e s m args below meth c F H locs lv hR hS hz hl)
theorem a_sil {i : Int32} {t : Nat} (j : Nat) (ht : t < 5) (hd : decode cc pc = .ok (.iaload, 1)) (he : i = nI j) (hj : j < sN t)
    (kk : AW G y cc mL rt R Z cn sn (pc + 1) ls (.int ((sI t).getD j 0) :: st) h) : AW G y cc mL rt R Z cn sn pc ls (.int i :: .ref (gs G t) :: st) h :=
  fun hc hs p e s m args below meth c F H locs lv hR hS hz hl => by
    subst he
    have hN : sN t < 2147483648 := by unfold sN; split <;> decide
    exact va_ti F.1 F.2.1 (F.2.2.2.2.2.2.2.2.2.2.1.1 t ht).2 hS (vp_in_nI hj hN) (by rw [nI_clamp (Nat.lt_trans hj hN)]) hd (kk hc hs p e s m args below meth c F H locs lv hR hS hz hl)
theorem a_sll {i : Int32} (j : Nat) (hd : decode cc pc = .ok (.laload, 1)) (he : i = nI j) (hj : j < 36)
    (kk : AW G y cc mL rt R Z cn sn (pc + 1) ls (.long (sJ.getD j 0) :: st) h) : AW G y cc mL rt R Z cn sn pc ls (.int i :: .ref (gs G 5) :: st) h :=
  fun hc hs p e s m args below meth c F H locs lv hR hS hz hl => by
    subst he
    exact va_tl F.1 F.2.1 F.2.2.2.2.2.2.2.2.2.2.1.2.1.2 hS (vp_in_nI hj (by omega)) (by rw [nI_clamp (by omega)]) hd (kk hc hs p e s m args below meth c F H locs lv hR hS hz hl)
/-- the script -/
theorem a_scl (hL : gL G < 2147483648) {i : Int32} (j : Nat) (hd : decode cc pc = .ok (.iaload, 1)) (he : i = nI j) (hj : j < gL G)
    (kk : AW G y cc mL rt R Z cn sn (pc + 1) ls (.int (gX G j) :: st) h) : AW G y cc mL rt R Z cn sn pc ls (.int i :: .ref (gs G 6) :: st) h :=
  fun hc hs p e s m args below meth c F H locs lv hR hS hz hl => by
    subst he
    exact va_ti F.1 F.2.1 F.2.2.2.2.2.2.2.2.2.2.1.2.2 hS (vp_in_nI hj hL) (by rw [nI_clamp (Nat.lt_trans hj hL)]) hd (kk hc hs p e s m args below meth c F H locs lv hR hS hz hl)
theorem a_sclen (hd : decode cc pc = .ok (.arraylength, 1)) (kk : AW G y cc mL rt R Z cn sn (pc + 1) ls (.int (nI (gL G)) :: st) h) : AW G y cc mL rt R Z cn sn pc ls (.ref (gs G 6) :: st) h :=
  fun hc hs p e s m args below meth c F H locs lv hR hS hz hl => va_tlen F.1 F.2.1 F.2.2.2.2.2.2.2.2.2.2.1.2.2 hS rfl hd (kk hc hs p e s m args below meth c F H locs lv hR hS hz hl)
end Heap
