theorem w_maxC : Cond.code Lib.Math.max.name Lib.Math.max.code 2 (some .int) ∈ gT := gT_mw 568 (by decide +kernel) (by decide +kernel)
theorem w_minC : Cond.code Lib.Math.min.name Lib.Math.min.code 2 (some .int) ∈ gT := gT_mw 565 (by decide +kernel) (by decide +kernel)
/-! calls, returns, new cells, copies -/
theorem W_sz {G : Cx} {R : Room} {cn sn : Nat} {h : List va_E} {p : Program} {e : Env} {s : State} {m : MethodId} {args : Array Value} {below : List Frame} {meth : Method} {c : Code} {H : Heap} {locs : List Loc} {Q : State → Prop} {g : JFrame} (hSur : Sur G s) (hR : RH G h H) (hS : va_S (gA G) s.heap H locs) (hz : gz G = true → s.heap.size + cn = gB G + h.length) (k : (gz G = true → H.size = gB G + h.length) → W p (gl G) e R s m args below meth c H locs cn sn Q g) : W p (gl G) e R s m args below meth c H locs cn sn Q g :=
  fun T hT X => k (RH_size hSur X hT hR hS hz) T hT X
section Calls
variable {G : Cx} {y : MethodName} {cc : ByteArray} {mL : Nat} {rt : Option FieldType} {R : Room} {Z : List Frame → Array Value → State → State → Prop} {cn sn pc : Nat} {ls : List (Option Value)} {st : List Value} {h : List va_E}
variable {y' : MethodName} {cc' : ByteArray} {mL' : Nat} {rt' : Option FieldType} {idx d mc' ms' n : Nat} {Q' : Option Value → List va_E → Prop}
theorem a_invV {q ci N : Nat} {T : u_T} {fs : List Value} {As rest st0 : List Value} (hst : st0 = As.reverse ++ .ref (gB G + q) :: rest) (hAn : As.length = n) (hd : decode cc pc = .ok (.invokevirtual idx, 3)) (hw : Cond.methodLink y.cls idx y' ∈ gT) (hi : Cond.instanceMethod y' ∈ gT) (hsel : Cond.selects y'.cls y' y' ∈ gT) (hcf : CF y' cc' mL' rt' n) (hci : vwCl[ci]? = some (y'.cls, T, N)) (hq : h[q]? = some (.inr (ci, fs))) (hW : (rest.map fun v => v.category).sum ≤ 8) (hR1 : d + 1 ≤ R.frames ∧ 8 + (mL' + 11) + 64 * d ≤ R.locals) (hcs : cn + mc' ≤ R.cells ∧ sn + ms' ≤ R.slots)
    (M : AM G y' cc' mL' rt' d mc' ms' (.ref (gB G + q) :: As) h Q') (hQ : ∀ (v : Option Value) (h' : List va_E), Q' v h' → (gz G = true → h'.length = h.length + mc') → AW G y cc mL rt R Z (cn + mc') (sn + ms') (pc + 3) ls (pv v rest) h') : AW G y cc mL rt R Z cn sn pc ls st0 h :=
  fun hc hs p e s m args below meth c F H locs lv hR hS hz hl => by
    refine W_sz F.2.2.2.2.2.2.2.2 hR hS hz (fun hsz => ?_)
    subst hst
    refine a_fin (va_runV (As := As) (rest := rest) (g := F0 m pc lv (As.reverse ++ .ref (gB G + q) :: rest)) ⟨F.1, F.2.1, F.2.2.2.1, F.2.2.2.2.1, F.2.2.2.2.2.1⟩ M (C := y'.cls) (index := idx) ⟨callB_of n F.2.2.2.2.2.1 (gT_goodIn hcf.2.1) rfl rfl rfl (F.2.2.2.2.2.1 _ hcf.1) (F.2.2.2.2.2.1 _ hw) hcf.2.2.2 hR1, F.2.2.2.2.2.1 _ hi, F.2.2.2.2.2.1 _ hsel⟩ ⟨APre_blind, va_recv F.2.2.2.2.2.2.2.2.2.1 hR.1 (ci := ci) hci (wz_get hq), fun U hU hW => ⟨rfl, Sur_move F.2.2.2.2.2.2.2.2 hS hU hW, by rw [hU]; exact hR, by rw [hU]; exact hsz⟩⟩ rfl hAn hl.1 rfl (by show 2 * 0 + _ ≤ 8; omega) hd hcs) hS (fun v h' hk hz' H1 locs1 hR1 hS1 => hQ v h' hk hz' hcs.1 hcs.2 p e s m args below meth c F H1 locs1 lv hR1 hS1 (fun q => by have h1 := hz q; have h2 := hz' q; omega) hl)
theorem a_invS {As rest st0 : List Value} (hst : st0 = As.reverse ++ rest) (hAn : As.length = n) (hd : decode cc pc = .ok (.invokestatic idx, 3)) (hw : Cond.methodLink y.cls idx y' ∈ gT) (hi : Cond.static y' ∈ gT) (hcf : CF y' cc' mL' rt' n) (hW : (rest.map fun v => v.category).sum ≤ 8) (hR1 : d + 1 ≤ R.frames ∧ 8 + (mL' + 11) + 64 * d ≤ R.locals) (hcs : cn + mc' ≤ R.cells ∧ sn + ms' ≤ R.slots)
    (M : AM G y' cc' mL' rt' d mc' ms' As h Q') (hQ : ∀ (v : Option Value) (h' : List va_E), Q' v h' → (gz G = true → h'.length = h.length + mc') → AW G y cc mL rt R Z (cn + mc') (sn + ms') (pc + 3) ls (pv v rest) h') : AW G y cc mL rt R Z cn sn pc ls st0 h :=
  fun hc hs p e s m args below meth c F H locs lv hR hS hz hl => by
    refine W_sz F.2.2.2.2.2.2.2.2 hR hS hz (fun hsz => ?_)
    subst hst
    refine a_fin (va_runS (As := As) (rest := rest) (g := F0 m pc lv (As.reverse ++ rest)) ⟨F.1, F.2.1, F.2.2.2.1, F.2.2.2.2.1, F.2.2.2.2.2.1⟩ M (index := idx) ⟨callB_of n F.2.2.2.2.2.1 (gT_goodIn hcf.2.1) rfl rfl rfl (F.2.2.2.2.2.1 _ hcf.1) (F.2.2.2.2.2.1 _ hw) hcf.2.2.2 hR1, F.2.2.2.2.2.1 _ hi⟩ ⟨APre_blind, fun U hU hW => ⟨rfl, Sur_move F.2.2.2.2.2.2.2.2 hS hU hW, by rw [hU]; exact hR, by rw [hU]; exact hsz⟩⟩ rfl hAn hl.1 rfl (by show 2 * 0 + _ ≤ 8; omega) hd hcs) hS (fun v h' hk hz' H1 locs1 hR1 hS1 => hQ v h' hk hz' hcs.1 hcs.2 p e s m args below meth c F H1 locs1 lv hR1 hS1 (fun q => by have h1 := hz q; have h2 := hz' q; omega) hl)
theorem a_invSN {host : String} {As rest st0 : List Value} (hst : st0 = As.reverse ++ rest) (hAn : As.length = n) (hd : decode cc pc = .ok (.invokestatic idx, 3)) (hw : (y.cls, idx, y', host) ∈ nM) (hi : Cond.static y' ∈ gT) (hcf : CF y' cc' mL' rt' n) (hW : (rest.map fun v => v.category).sum ≤ 8) (hR1 : d + 1 ≤ R.frames ∧ 8 + (mL' + 11) + 64 * d ≤ R.locals) (hcs : cn + mc' ≤ R.cells ∧ sn + ms' ≤ R.slots)
    (M : AM G y' cc' mL' rt' d mc' ms' As h Q') (hQ : ∀ (v : Option Value) (h' : List va_E), Q' v h' → (gz G = true → h'.length = h.length + mc') → AW G y cc mL rt R Z (cn + mc') (sn + ms') (pc + 3) ls (pv v rest) h') : AW G y cc mL rt R Z cn sn pc ls st0 h :=
  fun hc hs p e s m args below meth c F H locs lv hR hS hz hl => by
    refine W_sz F.2.2.2.2.2.2.2.2 hR hS hz (fun hsz => ?_)
    subst hst
    refine a_fin (va_runSN (As := As) (rest := rest) (host := host) (g := F0 m pc lv (As.reverse ++ rest)) ⟨F.1, F.2.1, F.2.2.2.1, F.2.2.2.2.1, F.2.2.2.2.2.1⟩ M (index := idx) ⟨va_cnB n F.2.2.2.2.2.1 (gT_goodIn hcf.2.1) rfl rfl rfl (F.2.2.2.2.2.2.2.2.2.2.2.1 _ hw) (F.2.2.2.2.2.1 _ hcf.1) hcf.2.2.2 hR1, F.2.2.2.2.2.1 _ hi, trivial⟩ ⟨APre_blind, fun U hU hW => ⟨rfl, Sur_move F.2.2.2.2.2.2.2.2 hS hU hW, by rw [hU]; exact hR, by rw [hU]; exact hsz⟩⟩ rfl hAn hl.1 rfl (by show 2 * 0 + _ ≤ 8; omega) hd hcs) hS (fun v h' hk hz' H1 locs1 hR1 hS1 => hQ v h' hk hz' hcs.1 hcs.2 p e s m args below meth c F H1 locs1 lv hR1 hS1 (fun q => by have h1 := hz q; have h2 := hz' q; omega) hl)
theorem a_invI {a : Nat} {As rest st0 : List Value} (hst : st0 = As.reverse ++ .ref a :: rest) (hAn : As.length = n) (hd : decode cc pc = .ok (.invokespecial idx, 3)) (hw : Cond.methodLink y.cls idx y' ∈ gT) (hnm : y'.name = "<init>") (hi : Cond.instanceMethod y' ∈ gT) (hcf : CF y' cc' mL' none n) (hW : (rest.map fun v => v.category).sum ≤ 8) (hR1 : d + 1 ≤ R.frames ∧ 8 + (mL' + 11) + 64 * d ≤ R.locals) (hcs : cn + mc' ≤ R.cells ∧ sn + ms' ≤ R.slots)
    (M : AM G y' cc' mL' none d mc' ms' (.ref a :: As) h Q') (hQ : ∀ (v : Option Value) (h' : List va_E), Q' v h' → (gz G = true → h'.length = h.length + mc') → AW G y cc mL rt R Z (cn + mc') (sn + ms') (pc + 3) ls (pv v rest) h') : AW G y cc mL rt R Z cn sn pc ls st0 h :=
  fun hc hs p e s m args below meth c F H locs lv hR hS hz hl => by
    refine W_sz F.2.2.2.2.2.2.2.2 hR hS hz (fun hsz => ?_)
    subst hst
    refine a_fin (va_runI (As := As) (rest := rest) (g := F0 m pc lv (As.reverse ++ .ref a :: rest)) ⟨F.1, F.2.1, F.2.2.2.1, F.2.2.2.2.1, F.2.2.2.2.2.1⟩ M (index := idx) ⟨callB_of n F.2.2.2.2.2.1 (gT_goodIn hcf.2.1) rfl rfl rfl (F.2.2.2.2.2.1 _ hcf.1) (F.2.2.2.2.2.1 _ hw) hcf.2.2.2 hR1, hnm, F.2.2.2.2.2.1 _ hi⟩ ⟨APre_blind, fun U hU hW => ⟨rfl, Sur_move F.2.2.2.2.2.2.2.2 hS hU hW, by rw [hU]; exact hR, by rw [hU]; exact hsz⟩⟩ rfl hAn hl.1 rfl (by show 2 * 0 + _ ≤ 8; omega) hd hcs) hS (fun v h' hk hz' H1 locs1 hR1 hS1 => hQ v h' hk hz' hcs.1 hcs.2 p e s m args below meth c F H1 locs1 lv hR1 hS1 (fun q => by have h1 := hz q; have h2 := hz' q; omega) hl)
theorem a_invIN {host : String} {a : Nat} {As rest st0 : List Value} (hst : st0 = As.reverse ++ .ref a :: rest) (hAn : As.length = n) (hd : decode cc pc = .ok (.invokespecial idx, 3)) (hw : (y.cls, idx, y', host) ∈ nM) (hnm : y'.name = "<init>") (hi : Cond.instanceMethod y' ∈ gT) (hcf : CF y' cc' mL' none n) (hW : (rest.map fun v => v.category).sum ≤ 8) (hR1 : d + 1 ≤ R.frames ∧ 8 + (mL' + 11) + 64 * d ≤ R.locals) (hcs : cn + mc' ≤ R.cells ∧ sn + ms' ≤ R.slots)
    (M : AM G y' cc' mL' none d mc' ms' (.ref a :: As) h Q') (hQ : ∀ (v : Option Value) (h' : List va_E), Q' v h' → (gz G = true → h'.length = h.length + mc') → AW G y cc mL rt R Z (cn + mc') (sn + ms') (pc + 3) ls (pv v rest) h') : AW G y cc mL rt R Z cn sn pc ls st0 h :=
  fun hc hs p e s m args below meth c F H locs lv hR hS hz hl => by
    refine W_sz F.2.2.2.2.2.2.2.2 hR hS hz (fun hsz => ?_)
    subst hst
    refine a_fin (va_runIN (As := As) (rest := rest) (host := host) (g := F0 m pc lv (As.reverse ++ .ref a :: rest)) ⟨F.1, F.2.1, F.2.2.2.1, F.2.2.2.2.1, F.2.2.2.2.2.1⟩ M (index := idx) ⟨va_cnB n F.2.2.2.2.2.1 (gT_goodIn hcf.2.1) rfl rfl rfl (F.2.2.2.2.2.2.2.2.2.2.2.1 _ hw) (F.2.2.2.2.2.1 _ hcf.1) hcf.2.2.2 hR1, hnm, F.2.2.2.2.2.1 _ hi⟩ ⟨APre_blind, fun U hU hW => ⟨rfl, Sur_move F.2.2.2.2.2.2.2.2 hS hU hW, by rw [hU]; exact hR, by rw [hU]; exact hsz⟩⟩ rfl hAn hl.1 rfl (by show 2 * 0 + _ ≤ 8; omega) hd hcs) hS (fun v h' hk hz' H1 locs1 hR1 hS1 => hQ v h' hk hz' hcs.1 hcs.2 p e s m args below meth c F H1 locs1 lv hR1 hS1 (fun q => by have h1 := hz q; have h2 := hz' q; omega) hl)
theorem a_objInit {a : Nat} (hd : decode cc pc = .ok (.invokespecial idx, 3)) (hw : Cond.methodLink y.cls idx objectInit ∈ gT) (hR1 : 1 ≤ R.frames ∧ (st.map fun v => v.category).sum + 12 ≤ R.locals) (kk : AW G y cc mL rt R Z cn sn (pc + 3) ls st h) : AW G y cc mL rt R Z cn sn pc ls (.ref a :: st) h :=
  fun hc hs p e s m args below meth c F H locs lv hR hS hz hl => W.objInit F.1 F.2.1 F.2.2.2.2.1 (F.2.2.2.2.2.1 _ hw) (F.2.2.2.2.2.1 _ w_23) (F.2.2.2.2.2.1 _ w_24) rfl (by rw [F.2.2.2.1]; exact hl.1) rfl hd hR1.1 (by show 2 * 0 + _ + 12 ≤ _; omega) (kk hc hs p e s m args below meth c F H locs lv hR hS hz hl)
theorem a_new {ci N : Nat} {C : String} {T : u_T} {ty : Nat → FieldType} {fs : List Value} (hz0 : gz G = true) (hd : decode cc pc = .ok (.new idx, 3)) (hw : Cond.classLink y.cls idx C ∈ gT) (hi : Cond.instantiable C N ∈ gT) (hni : Cond.initialized C ∈ gT) (hci : vwCl[ci]? = some (C, T, N)) (hin : ∀ w ∈ u_ws C T N, w ∈ gT) (hty : ∀ k, k < N → parseFieldDescriptor (T k).2.2.1 = some (ty k)) (hfs : ∀ j, j < N → defaultValue (ty j) = vp_V fs j) (hcs : cn + 1 ≤ R.cells ∧ sn + N ≤ R.slots)
    (kk : AW G y cc mL rt R Z (cn + 1) (sn + N) (pc + 3) ls (.ref (gB G + h.length) :: st) (h ++ [.inr (ci, fs)])) : AW G y cc mL rt R Z cn sn pc ls st h :=
  fun hc hs p e s m args below meth c F H locs lv hR hS hz hl => by
    refine W_sz F.2.2.2.2.2.2.2.2 hR hS hz (fun hsz => ?_)
    have hsz := hsz hz0
    have hKn := F.2.2.2.2.2.2.2.2.2.1.1 ci _ hci
    refine W.newcK F.1 F.2.1 F.2.2.2.2.1 (F.2.2.2.2.2.1 _ hw) (F.2.2.2.2.2.1 _ hi) (F.2.2.2.2.2.1 _ hni) rfl hd hcs.1 hcs.2 hKn.2.1 hsz (fun H1 kC hkC e1 z1 o1 => ?_)
    have hk : ∀ (k : Nat) (x : Nat × va_E), (wz (gB G) h)[k]? = some x → H1[x.1]? = H[x.1]? := fun k x hx => o1 x.1 (by rw [← hsz]; exact (hR.1 k x hx).lt)
    have hP1 : va_P (gD G) vwCl (wz (gB G) (h ++ [.inr (ci, fs)])) H1 := by
      rw [← wz_push]
      refine (hR.1.kept hk).app (fun k x hx => ?_)
      have hk0 : k < 1 := (List.getElem?_eq_some_iff.mp hx).1
      rw [show k = 0 by omega] at hx
      cases hx
      exact ⟨_, hci, (u_born ty F.2.2.2.2.2.1 hin hKn hkC e1 hty).to hfs⟩
    have hD1 : va_D (gA G) (wz (gB G) (h ++ [.inr (ci, fs)])) := by
      rw [← wz_push]
      exact hR.2.push hR.1 hsz.symm (Nat.le_add_right _ _)
    exact kk hcs.1 hcs.2 p e s m args below meth c F H1 locs lv ⟨hP1, hD1⟩ ⟨Nat.le_trans hS.1 (by omega), fun q g1 g2 => (o1 q (by have := hS.1; omega)).trans (hS.2.1 q g1 g2), hS.2.2⟩ (fun q => by have := hz q; rw [List.length_append]; show _ = _ + (_ + 1); omega) hl

theorem a_newI {i : Int32} (n : Nat) (hz0 : gz G = true) (hd : decode cc pc = .ok (.newarray .int, 2)) (he : i = nI n) (hn : n < 65536) (hcs : cn + 1 ≤ R.cells ∧ sn + n ≤ R.slots)
    (kk : AW G y cc mL rt R Z (cn + 1) (sn + n) (pc + 2) ls (.ref (gB G + h.length) :: st) (h ++ [.inl (gc G 0, n, .inl (fun _ => 0))])) : AW G y cc mL rt R Z cn sn pc ls (.int i :: st) h :=
  fun hc hs p e s m args below meth c F H locs lv hR hS hz hl => by
    subst he
    refine W_sz F.2.2.2.2.2.2.2.2 hR hS hz (fun hsz => ?_)
    have hsz := hsz hz0
    refine va_newaK (N := n) F.1 F.2.1 (atype := .int) (F.2.2.2.2.2.1 _ w_75) rfl hd rfl (nI_pos (by omega)) (nI_clamp (by omega)) (by show n * _ ≤ _; simp [componentBytes, newarray.typeOf]; omega) hcs.1 hcs.2 hsz (fun H1 cA e1 z1 o1 hAr hNm => ?_)
    have hcA : cA = gc G 0 := Option.some.inj (hNm.symm.trans (F.2.2.2.2.2.2.2.2.2.1.2 0 (gc G 0, .int) rfl).2)
    subst hcA
    have hk : ∀ (k : Nat) (x : Nat × va_E), (wz (gB G) h)[k]? = some x → H1[x.1]? = H[x.1]? := fun k x hx => o1 x.1 (by rw [← hsz]; exact (hR.1 k x hx).lt)
    have hP1 : va_P (gD G) vwCl (wz (gB G) (h ++ [.inl (gc G 0, n, .inl (fun _ => 0))])) H1 := by
      rw [← wz_push]
      refine (hR.1.kept hk).app (fun k x hx => ?_)
      have hk0 : k < 1 := (List.getElem?_eq_some_iff.mp hx).1
      rw [show k = 0 by omega] at hx
      cases hx
      exact e1
    have hD1 : va_D (gA G) (wz (gB G) (h ++ [.inl (gc G 0, n, .inl (fun _ => 0))])) := by
      rw [← wz_push]
      exact hR.2.push hR.1 hsz.symm (Nat.le_add_right _ _)
    exact kk hcs.1 hcs.2 p e s m args below meth c F H1 locs lv ⟨hP1, hD1⟩ ⟨Nat.le_trans hS.1 (by omega), fun q g1 g2 => (o1 q (by have := hS.1; omega)).trans (hS.2.1 q g1 g2), hS.2.2⟩ (fun q => by have := hz q; rw [List.length_append]; show _ = _ + (_ + 1); omega) hl

theorem a_newL {i : Int32} (n : Nat) (hz0 : gz G = true) (hd : decode cc pc = .ok (.newarray .long, 2)) (he : i = nI n) (hn : n < 65536) (hcs : cn + 1 ≤ R.cells ∧ sn + n ≤ R.slots)
    (kk : AW G y cc mL rt R Z (cn + 1) (sn + n) (pc + 2) ls (.ref (gB G + h.length) :: st) (h ++ [.inl (gc G 1, n, .inr (.inl (fun _ => 0)))])) : AW G y cc mL rt R Z cn sn pc ls (.int i :: st) h :=
  fun hc hs p e s m args below meth c F H locs lv hR hS hz hl => by
    subst he
    refine W_sz F.2.2.2.2.2.2.2.2 hR hS hz (fun hsz => ?_)
    have hsz := hsz hz0
    refine va_newaK (N := n) F.1 F.2.1 (atype := .long) (F.2.2.2.2.2.1 _ w_255) rfl hd rfl (nI_pos (by omega)) (nI_clamp (by omega)) (by show n * _ ≤ _; simp [componentBytes, newarray.typeOf]; omega) hcs.1 hcs.2 hsz (fun H1 cA e1 z1 o1 hAr hNm => ?_)
    have hcA : cA = gc G 1 := Option.some.inj (hNm.symm.trans (F.2.2.2.2.2.2.2.2.2.1.2 1 (gc G 1, .long) rfl).2)
    subst hcA
    have hk : ∀ (k : Nat) (x : Nat × va_E), (wz (gB G) h)[k]? = some x → H1[x.1]? = H[x.1]? := fun k x hx => o1 x.1 (by rw [← hsz]; exact (hR.1 k x hx).lt)
    have hP1 : va_P (gD G) vwCl (wz (gB G) (h ++ [.inl (gc G 1, n, .inr (.inl (fun _ => 0)))])) H1 := by
      rw [← wz_push]
      refine (hR.1.kept hk).app (fun k x hx => ?_)
      have hk0 : k < 1 := (List.getElem?_eq_some_iff.mp hx).1
      rw [show k = 0 by omega] at hx
      cases hx
      exact e1
    have hD1 : va_D (gA G) (wz (gB G) (h ++ [.inl (gc G 1, n, .inr (.inl (fun _ => 0)))])) := by
      rw [← wz_push]
      exact hR.2.push hR.1 hsz.symm (Nat.le_add_right _ _)
    exact kk hcs.1 hcs.2 p e s m args below meth c F H1 locs lv ⟨hP1, hD1⟩ ⟨Nat.le_trans hS.1 (by omega), fun q g1 g2 => (o1 q (by have := hS.1; omega)).trans (hS.2.1 q g1 g2), hS.2.2⟩ (fun q => by have := hz q; rw [List.length_append]; show _ = _ + (_ + 1); omega) hl

theorem a_newZ {i : Int32} (n : Nat) (hz0 : gz G = true) (hd : decode cc pc = .ok (.newarray .boolean, 2)) (he : i = nI n) (hn : n < 65536) (hcs : cn + 1 ≤ R.cells ∧ sn + n ≤ R.slots)
    (kk : AW G y cc mL rt R Z (cn + 1) (sn + n) (pc + 2) ls (.ref (gB G + h.length) :: st) (h ++ [.inl (gc G 2, n, .inl (fun _ => 0))])) : AW G y cc mL rt R Z cn sn pc ls (.int i :: st) h :=
  fun hc hs p e s m args below meth c F H locs lv hR hS hz hl => by
    subst he
    refine W_sz F.2.2.2.2.2.2.2.2 hR hS hz (fun hsz => ?_)
    have hsz := hsz hz0
    refine va_newaK (N := n) F.1 F.2.1 (atype := .boolean) (F.2.2.2.2.2.1 _ w_1117) rfl hd rfl (nI_pos (by omega)) (nI_clamp (by omega)) (by show n * _ ≤ _; simp [componentBytes, newarray.typeOf]; omega) hcs.1 hcs.2 hsz (fun H1 cA e1 z1 o1 hAr hNm => ?_)
    have hcA : cA = gc G 2 := Option.some.inj (hNm.symm.trans (F.2.2.2.2.2.2.2.2.2.1.2 2 (gc G 2, .boolean) rfl).2)
    subst hcA
    have hk : ∀ (k : Nat) (x : Nat × va_E), (wz (gB G) h)[k]? = some x → H1[x.1]? = H[x.1]? := fun k x hx => o1 x.1 (by rw [← hsz]; exact (hR.1 k x hx).lt)
    have hP1 : va_P (gD G) vwCl (wz (gB G) (h ++ [.inl (gc G 2, n, .inl (fun _ => 0))])) H1 := by
      rw [← wz_push]
      refine (hR.1.kept hk).app (fun k x hx => ?_)
      have hk0 : k < 1 := (List.getElem?_eq_some_iff.mp hx).1
      rw [show k = 0 by omega] at hx
      cases hx
      exact e1
    have hD1 : va_D (gA G) (wz (gB G) (h ++ [.inl (gc G 2, n, .inl (fun _ => 0))])) := by
      rw [← wz_push]
      exact hR.2.push hR.1 hsz.symm (Nat.le_add_right _ _)
    exact kk hcs.1 hcs.2 p e s m args below meth c F H1 locs lv ⟨hP1, hD1⟩ ⟨Nat.le_trans hS.1 (by omega), fun q g1 g2 => (o1 q (by have := hS.1; omega)).trans (hS.2.1 q g1 g2), hS.2.2⟩ (fun q => by have := hz q; rw [List.length_append]; show _ = _ + (_ + 1); omega) hl

theorem a_newQC {i : Int32} (n : Nat) (hz0 : gz G = true) (hd : decode cc pc = .ok (.anewarray idx, 3)) (hw : Cond.classLink y.cls idx RX0 ∈ gT) (he : i = nI n) (hn : n < 65536) (hcs : cn + 1 ≤ R.cells ∧ sn + n ≤ R.slots)
    (kk : AW G y cc mL rt R Z (cn + 1) (sn + n) (pc + 3) ls (.ref (gB G + h.length) :: st) (h ++ [.inl (gc G 3, n, .inr (.inr (.inr (.inr (fun _ => none)))))])) : AW G y cc mL rt R Z cn sn pc ls (.int i :: st) h :=
  fun hc hs p e s m args below meth c F H locs lv hR hS hz hl => by
    subst he
    refine W_sz F.2.2.2.2.2.2.2.2 hR hS hz (fun hsz => ?_)
    have hsz := hsz hz0
    have hcl : (nI n).toNatClampNeg = n := nI_clamp (by omega)
    refine W.anew F.1 F.2.1 F.2.2.2.2.1 (F.2.2.2.2.2.1 _ hw) (va_AO.use F.2.2.2.2.2.2.2.2.2.2.2.2.2.1) rfl hd rfl (nI_pos (by omega)) (by rw [hcl]; omega) hcs.1 (by rw [hcl]; exact hcs.2) (fun cA kA comp f1 f2 f3 f4 => ?_)
    rw [hcl]
    have hcA : cA = gc G 3 := by
      obtain ⟨k', c', g1, g2, g3, g4⟩ := (F.2.2.2.2.2.2.2.2.2.1.2 3 (gc G 3, .object RX0) rfl).2
      exact Option.some.inj (f1.symm.trans g4)
    subst hcA
    generalize hH1 : H.push ({ cls := gc G 3, slots := Array.replicate n .null, vm := .none } : Cell) = H1
    have z1 : H1.size = H.size + 1 := by rw [← hH1, Array.size_push]
    have e1 : H1[H.size]? = some (arrV (gc G 3) n (fun _ => .null)) := by rw [← hH1, Array.getElem?_push_size, ← arrV_new]
    have o1 : ∀ q, q < H.size → H1[q]? = H[q]? := fun q hq => by rw [← hH1, Array.getElem?_push, if_neg (Nat.ne_of_lt hq)]
    have hk : ∀ (k : Nat) (x : Nat × va_E), (wz (gB G) h)[k]? = some x → H1[x.1]? = H[x.1]? := fun k x hx => o1 x.1 (hR.1 k x hx).lt
    have hP1 : va_P (gD G) vwCl (wz (gB G) (h ++ [.inl (gc G 3, n, .inr (.inr (.inr (.inr (fun _ => none)))))])) H1 := by
      rw [← wz_push]
      refine (hR.1.kept hk).app (fun k x hx => ?_)
      have hk0 : k < 1 := (List.getElem?_eq_some_iff.mp hx).1
      rw [show k = 0 by omega] at hx
      cases hx
      rw [hsz] at e1
      exact e1
    have hD1 : va_D (gA G) (wz (gB G) (h ++ [.inl (gc G 3, n, .inr (.inr (.inr (.inr (fun _ => none)))))])) := by
      rw [← wz_push]
      exact hR.2.push hR.1 hsz.symm (Nat.le_add_right _ _)
    rw [hsz]
    exact kk hcs.1 hcs.2 p e s m args below meth c F H1 locs lv ⟨hP1, hD1⟩ ⟨Nat.le_trans hS.1 (by omega), fun q g1 g2 => (o1 q (by have := hS.1; omega)).trans (hS.2.1 q g1 g2), hS.2.2⟩ (fun q => by have := hz q; rw [List.length_append]; show _ = _ + (_ + 1); omega) hl

theorem a_newQS {i : Int32} (n : Nat) (hz0 : gz G = true) (hd : decode cc pc = .ok (.anewarray idx, 3)) (hw : Cond.classLink y.cls idx RX6 ∈ gT) (he : i = nI n) (hn : n < 65536) (hcs : cn + 1 ≤ R.cells ∧ sn + n ≤ R.slots)
    (kk : AW G y cc mL rt R Z (cn + 1) (sn + n) (pc + 3) ls (.ref (gB G + h.length) :: st) (h ++ [.inl (gc G 4, n, .inr (.inr (.inr (.inr (fun _ => none)))))])) : AW G y cc mL rt R Z cn sn pc ls (.int i :: st) h :=
  fun hc hs p e s m args below meth c F H locs lv hR hS hz hl => by
    subst he
    refine W_sz F.2.2.2.2.2.2.2.2 hR hS hz (fun hsz => ?_)
    have hsz := hsz hz0
    have hcl : (nI n).toNatClampNeg = n := nI_clamp (by omega)
    refine W.anew F.1 F.2.1 F.2.2.2.2.1 (F.2.2.2.2.2.1 _ hw) (va_AO.use F.2.2.2.2.2.2.2.2.2.2.2.2.2.2) rfl hd rfl (nI_pos (by omega)) (by rw [hcl]; omega) hcs.1 (by rw [hcl]; exact hcs.2) (fun cA kA comp f1 f2 f3 f4 => ?_)
    rw [hcl]
    have hcA : cA = gc G 4 := by
      obtain ⟨k', c', g1, g2, g3, g4⟩ := (F.2.2.2.2.2.2.2.2.2.1.2 4 (gc G 4, .object RX6) rfl).2
      exact Option.some.inj (f1.symm.trans g4)
    subst hcA
    generalize hH1 : H.push ({ cls := gc G 4, slots := Array.replicate n .null, vm := .none } : Cell) = H1
    have z1 : H1.size = H.size + 1 := by rw [← hH1, Array.size_push]
    have e1 : H1[H.size]? = some (arrV (gc G 4) n (fun _ => .null)) := by rw [← hH1, Array.getElem?_push_size, ← arrV_new]
    have o1 : ∀ q, q < H.size → H1[q]? = H[q]? := fun q hq => by rw [← hH1, Array.getElem?_push, if_neg (Nat.ne_of_lt hq)]
    have hk : ∀ (k : Nat) (x : Nat × va_E), (wz (gB G) h)[k]? = some x → H1[x.1]? = H[x.1]? := fun k x hx => o1 x.1 (hR.1 k x hx).lt
    have hP1 : va_P (gD G) vwCl (wz (gB G) (h ++ [.inl (gc G 4, n, .inr (.inr (.inr (.inr (fun _ => none)))))])) H1 := by
      rw [← wz_push]
      refine (hR.1.kept hk).app (fun k x hx => ?_)
      have hk0 : k < 1 := (List.getElem?_eq_some_iff.mp hx).1
      rw [show k = 0 by omega] at hx
      cases hx
      rw [hsz] at e1
      exact e1
    have hD1 : va_D (gA G) (wz (gB G) (h ++ [.inl (gc G 4, n, .inr (.inr (.inr (.inr (fun _ => none)))))])) := by
      rw [← wz_push]
      exact hR.2.push hR.1 hsz.symm (Nat.le_add_right _ _)
    rw [hsz]
    exact kk hcs.1 hcs.2 p e s m args below meth c F H1 locs lv ⟨hP1, hD1⟩ ⟨Nat.le_trans hS.1 (by omega), fun q g1 g2 => (o1 q (by have := hS.1; omega)).trans (hS.2.1 q g1 g2), hS.2.2⟩ (fun q => by have := hz q; rw [List.length_append]; show _ = _ + (_ + 1); omega) hl

theorem a_iret {v : Int32} {mc ms n : Nat} {Q : Option Value → List va_E → Prop} (hd : decode cc pc = .ok (.ireturn, 1)) (hrt : rt = some .int)  (hlen : gz G = true → h.length = n) (hq : Q (some (.int v)) h) : AW G y cc mL rt (rmx d mc ms) (ZQ G mc ms n Q) cn sn pc ls [.int v] h :=
  fun hc hs p e s m args below meth c F H locs lv hR hS hz hl => W.widen hc hs (W.iret (v := v) F.1 F.2.1 (F.2.2.1.trans hrt)  (fun t ht hW => ⟨_, h, rfl, hq, by rw [ht]; exact hR, hlen, hS.F ht⟩) hS.2.2 hd (hlocks := F.2.2.2.2.2.2.1))
theorem a_zret {v : Int32} {mc ms n : Nat} {Q : Option Value → List va_E → Prop} (hd : decode cc pc = .ok (.ireturn, 1)) (hrt : rt = some .boolean) (hn : narrow .boolean (.int v) = .int v) (hlen : gz G = true → h.length = n) (hq : Q (some (.int v)) h) : AW G y cc mL rt (rmx d mc ms) (ZQ G mc ms n Q) cn sn pc ls [.int v] h :=
  fun hc hs p e s m args below meth c F H locs lv hR hS hz hl => W.widen hc hs (W.zret (v := v) F.1 F.2.1 (F.2.2.1.trans hrt) hn (fun t ht hW => ⟨_, h, rfl, hq, by rw [ht]; exact hR, hlen, hS.F ht⟩) hS.2.2 hd (hlocks := F.2.2.2.2.2.2.1))
theorem a_lret {v : Int64} {mc ms n : Nat} {Q : Option Value → List va_E → Prop} (hd : decode cc pc = .ok (.lreturn, 1)) (hrt : rt = some .long)  (hlen : gz G = true → h.length = n) (hq : Q (some (.long v)) h) : AW G y cc mL rt (rmx d mc ms) (ZQ G mc ms n Q) cn sn pc ls [.long v] h :=
  fun hc hs p e s m args below meth c F H locs lv hR hS hz hl => W.widen hc hs (W.lret (v := v) F.1 F.2.1 (F.2.2.1.trans hrt)  (fun t ht hW => ⟨_, h, rfl, hq, by rw [ht]; exact hR, hlen, hS.F ht⟩) hS.2.2 hd (hlocks := F.2.2.2.2.2.2.1))
theorem a_vret  {mc ms n : Nat} {Q : Option Value → List va_E → Prop} (hd : decode cc pc = .ok (.return_, 1)) (hrt : rt = none)  (hlen : gz G = true → h.length = n) (hq : Q none h) : AW G y cc mL rt (rmx d mc ms) (ZQ G mc ms n Q) cn sn pc ls [] h :=
  fun hc hs p e s m args below meth c F H locs lv hR hS hz hl => W.widen hc hs (W.vret F.1 F.2.1 (F.2.2.1.trans hrt)  (fun t ht hW => ⟨_, h, rfl, hq, by rw [ht]; exact hR, hlen, hS.F ht⟩) hS.2.2 hd (hlocks := F.2.2.2.2.2.2.1))
theorem a_aret {a : Nat} {C : String} {mc ms n : Nat} {Q : Option Value → List va_E → Prop} (hd : decode cc pc = .ok (.areturn, 1)) (hrt : rt = some (.object C))  (hlen : gz G = true → h.length = n) (hq : Q (some (.ref a)) h) : AW G y cc mL rt (rmx d mc ms) (ZQ G mc ms n Q) cn sn pc ls [.ref a] h :=
  fun hc hs p e s m args below meth c F H locs lv hR hS hz hl => W.widen hc hs (W.aret (v := .ref a) F.1 F.2.1 (F.2.2.1.trans hrt) (Or.inl ⟨C, rfl⟩) (Or.inr ⟨a, rfl⟩) (fun t ht hW => ⟨_, h, rfl, hq, by rw [ht]; exact hR, hlen, hS.F ht⟩) hS.2.2 hd (hlocks := F.2.2.2.2.2.2.1))
theorem a_copyi {q0 q1 n0 n1 : Nat} {f g : Nat → Int32} {a b k : Int32} (sp dp n : Nat) (hd : decode cc pc = .ok (.invokestatic idx, 3)) (hw : Cond.methodLink y.cls idx arraycopyName ∈ gT) (hn0 : n0 < 65536) (hn1 : n1 < 65536) (ha : a = nI sp) (hb : b = nI dp) (hk : k = nI n) (h4 : sp + n ≤ n0) (h5 : dp + n ≤ n1) (hq0 : h[q0]? = some (.inl (gc G 0, n0, .inl f))) (hq1 : h[q1]? = some (.inl (gc G 0, n1, .inl g))) (hR1 : 1 ≤ R.frames ∧ (st.map fun v => v.category).sum + 18 ≤ R.locals)
    (kk : AW G y cc mL rt R Z cn sn (pc + 3) ls st (h.set q1 (.inl (gc G 0, n1, .inl (va_cpy f g sp dp n))))) : AW G y cc mL rt R Z cn sn pc ls (.int k :: .int b :: .ref (gB G + q1) :: .int a :: .ref (gB G + q0) :: st) h :=
  fun hc hs p e s m args below meth c F H locs lv hR hS hz hl => by
    subst ha
    subst hb
    subst hk
    have e1 : (nI sp).toNatClampNeg = sp := nI_clamp (by omega)
    have e2 : (nI dp).toNatClampNeg = dp := nI_clamp (by omega)
    have e3 : (nI n).toNatClampNeg = n := nI_clamp (by omega)
    refine va_copyi (D := gD G) F.1 F.2.1 (by rw [F.2.2.2.1]; exact hl.1.symm) F.2.2.2.2.1 (F.2.2.2.2.2.1 _ hw) (F.2.2.2.2.2.1 _ w_451) (F.2.2.2.2.2.1 _ w_450) (F.2.2.2.2.2.1 _ w_14) F.2.2.2.2.2.2.2.2.2.1 hR.1 hR.2 hS q0 q1 0 0 (wz_get hq0) (wz_get hq1) (ty := .int) rfl rfl rfl (nI_pos (by omega)) (nI_pos (by omega)) (nI_pos (by omega)) (by rw [e1, e3]; exact h4) (by rw [e2, e3]; exact h5) (fun _ _ => rfl) hR1.1 (by show _ + (5 + 2 + 11) ≤ _; omega) hd (fun H1 locs1 hP hD hS1 => ?_)
    rw [e1, e2, e3, wz_set] at hP hD
    exact kk hc hs p e s m args below meth c F H1 locs1 lv ⟨hP, hD⟩ hS1 (by rw [List.length_set]; exact hz) hl
theorem a_copyl {q0 q1 n0 n1 : Nat} {f g : Nat → Int64} {a b k : Int32} (sp dp n : Nat) (hd : decode cc pc = .ok (.invokestatic idx, 3)) (hw : Cond.methodLink y.cls idx arraycopyName ∈ gT) (hn0 : n0 < 65536) (hn1 : n1 < 65536) (ha : a = nI sp) (hb : b = nI dp) (hk : k = nI n) (h4 : sp + n ≤ n0) (h5 : dp + n ≤ n1) (hq0 : h[q0]? = some (.inl (gc G 1, n0, .inr (.inl f)))) (hq1 : h[q1]? = some (.inl (gc G 1, n1, .inr (.inl g)))) (hR1 : 1 ≤ R.frames ∧ (st.map fun v => v.category).sum + 18 ≤ R.locals)
    (kk : AW G y cc mL rt R Z cn sn (pc + 3) ls st (h.set q1 (.inl (gc G 1, n1, .inr (.inl (va_cpy f g sp dp n)))))) : AW G y cc mL rt R Z cn sn pc ls (.int k :: .int b :: .ref (gB G + q1) :: .int a :: .ref (gB G + q0) :: st) h :=
  fun hc hs p e s m args below meth c F H locs lv hR hS hz hl => by
    subst ha
    subst hb
    subst hk
    have e1 : (nI sp).toNatClampNeg = sp := nI_clamp (by omega)
    have e2 : (nI dp).toNatClampNeg = dp := nI_clamp (by omega)
    have e3 : (nI n).toNatClampNeg = n := nI_clamp (by omega)
    refine va_copyl (D := gD G) F.1 F.2.1 (by rw [F.2.2.2.1]; exact hl.1.symm) F.2.2.2.2.1 (F.2.2.2.2.2.1 _ hw) (F.2.2.2.2.2.1 _ w_451) (F.2.2.2.2.2.1 _ w_450) (F.2.2.2.2.2.1 _ w_14) F.2.2.2.2.2.2.2.2.2.1 hR.1 hR.2 hS q0 q1 1 1 (wz_get hq0) (wz_get hq1) (ty := .long) rfl rfl rfl (nI_pos (by omega)) (nI_pos (by omega)) (nI_pos (by omega)) (by rw [e1, e3]; exact h4) (by rw [e2, e3]; exact h5) (fun _ _ => rfl) hR1.1 (by show _ + (5 + 2 + 11) ≤ _; omega) hd (fun H1 locs1 hP hD hS1 => ?_)
    rw [e1, e2, e3, wz_set] at hP hD
    exact kk hc hs p e s m args below meth c F H1 locs1 lv ⟨hP, hD⟩ hS1 (by rw [List.length_set]; exact hz) hl
theorem a_mmax {x z : Int32} (hd : decode cc pc = .ok (.invokestatic idx, 3)) (hw : Cond.methodLink y.cls idx Lib.Math.max.name ∈ gT) (hR1 : 1 ≤ R.frames ∧ (st.map fun v => v.category).sum + 13 ≤ R.locals) (kk : AW G y cc mL rt R Z cn sn (pc + 3) ls (.int (if x < z then z else x) :: st) h) : AW G y cc mL rt R Z cn sn pc ls (.int z :: .int x :: st) h :=
  fun hc hs p e s m args below meth c F H locs lv hR hS hz hl => va_mmax F.1 F.2.1 (by rw [F.2.2.2.1]; exact hl.1.symm) F.2.2.2.2.1 (F.2.2.2.2.2.1 _ hw) (F.2.2.2.2.2.1 _ w_567) (F.2.2.2.2.2.1 _ w_16) (F.2.2.2.2.2.1 _ w_maxC) hR1.1 hR1.2 hc hs hd (kk hc hs p e s m args below meth c F H locs lv hR hS hz hl)
theorem a_mmin {x z : Int32} (hd : decode cc pc = .ok (.invokestatic idx, 3)) (hw : Cond.methodLink y.cls idx Lib.Math.min.name ∈ gT) (hR1 : 1 ≤ R.frames ∧ (st.map fun v => v.category).sum + 13 ≤ R.locals) (kk : AW G y cc mL rt R Z cn sn (pc + 3) ls (.int (if z < x then z else x) :: st) h) : AW G y cc mL rt R Z cn sn pc ls (.int z :: .int x :: st) h :=
  fun hc hs p e s m args below meth c F H locs lv hR hS hz hl => va_mmin F.1 F.2.1 (by rw [F.2.2.2.1]; exact hl.1.symm) F.2.2.2.2.1 (F.2.2.2.2.2.1 _ hw) (F.2.2.2.2.2.1 _ w_564) (F.2.2.2.2.2.1 _ w_16) (F.2.2.2.2.2.1 _ w_minC) hR1.1 hR1.2 hc hs hd (kk hc hs p e s m args below meth c F H locs lv hR hS hz hl)
end Calls
