/-! THE CLAIM OUT OF ONE WALK OF THE LAW'S BODY. Your part is whole_start (and what it stands on); all else here is the same for every law, but numbers. -/
def R_law : String := "NightGarrisonLaw"
def lw_P (b : Addr) (xs : List Int32) (args : Array Value) (s : State) : Prop := args = #[.ref b] ∧ s.IntsAt b xs ∧ xs.length ≤ 3072 ∧ (Jvm.Cond.and given_1 narrow_1).before args s = true
def lw_Q (_ : Array Value) (s : State) (o : Outcome) (t : State) : Prop := o = .returned (some (.int 1)) ∧ Framed s o t [] 600000 7302249
def lw_Z (below : List Frame) (a : Array Value) (s : State) : State → Prop := fun t => ∃ o, t.status = .running ∧ Ended t below o ∧ lw_Q a s o t
/-- the law's own end, with 1 on the stack, nothing written that was there before, its room as the claim has it -/
theorem lw_ret {p : Program} {l : Launch} {e : Env} {s : State} {m : MethodId} {below : List Frame} {meth : Method} {c : Code} {b : Nat} (hx : p.tables.exec = Jvm.exec) (hb : c.code = code) (hr : meth.sig.returnType = ret) (hlocks : meth.locks = false) {pc : Nat} {H : Heap} {ls : Array Slot} (hdg : decode code pc = .ok (.ireturn, 1)) : W p l e room_1 s m #[Value.ref b] below meth c H [] 600000 7302249 (lw_Z below #[Value.ref b] s) (F0 m pc ls [.int 1]) := by
  intro T hT X
  obtain ⟨fs, hret, hrun, hended, hW, hframe⟩ := X.leave (v := some (.int 1)) (hlocks := hlocks) (fun h => by rw [hr] at h; cases h)
  have hmeth' : T.vm.method? m = some meth := X.method'
  refine ⟨T.setFrames fs, ?_, .returned (some (.int 1)), hrun, hended, rfl, ⟨_, rfl⟩, hW, hframe⟩
  jvm_step X.here [X.here.top, hx, hb, hdg, hmeth', hr, ret, narrow_b1]
  (try refine ⟨rfl, ?_⟩); (try refine ⟨rfl, ?_⟩)
  first | (intro acts; rw [hret _ acts rfl rfl rfl]) | rw [hret _ _ rfl rfl rfl]
  exact Steps.refl _
/-- what holds at the law's entry: the machine, the code, the tables' words (any of lw_tbl by 'hts w (by decide +kernel)'), the script of L ints xs at the cell b, what the Statement gives of the start (any of its parts by flat_of_before) -/
def lw_At (p : Program) (s : State) (m : MethodId) (meth : Method) (c : Code) (b L : Nat) (xs : Nat → Int32) : Prop :=
  p.tables.exec = Jvm.exec ∧ c.code = code ∧ meth.sig.returnType = ret ∧ c.maxLocals = 4 ∧ s.vm.findClass R_law = some m.cls ∧ (∀ w ∈ lw_tbl, w.before #[Value.ref b] s = true) ∧ va_X b L xs s s.heap ∧ b < s.heap.size ∧ meth.locks = false ∧ (Jvm.Cond.and given_1 narrow_1).before #[Value.ref b] s = true
-- ===== YOUR PART BEGINS =====
def Zl (B b : Nat) : List Frame → Array Value → State → State → Prop := fun below args s t => (s.heap.size = B ∧ args = #[Value.ref b]) → lw_Z below args s t
theorem law_end {G : Cx} {yl : MethodName} {b cn sn : Nat} (hcn : cn ≤ 600000) (hsn : sn ≤ 7302249) (ls : List (Option Value)) (h : List va_E) : AW G yl cL_law 4 (some .boolean) room_1 (Zl (gB G) b) cn sn 1410 ls [.int 1] h :=
  fun hc hs p e s m args below meth c F H locs lv hR hS hz hl => by
    by_cases hq : s.heap.size = gB G ∧ args = #[Value.ref b]
    · obtain ⟨q1, rfl⟩ := hq
      have W1 := lw_ret (l := gl G) (e := e) (s := s) (m := m) (below := below) (H := H) (ls := lv) (b := b) F.1 F.2.1 F.2.2.1 F.2.2.2.2.2.2.1 dL_law_1410
      have W3 := va_forget (locs := locs) (fun q hq => by have h9 : gB G ≤ q.base := hS.2.2 q hq; omega) (W.widen hcn hsn W1)
      intro T hT X
      obtain ⟨t, a, q⟩ := W3 T hT X
      exact ⟨t, a, fun _ => q⟩
    · intro T hT X
      exact ⟨_, Steps.refl _, fun z => absurd z hq⟩
theorem walk_of {G : Cx} {yl : MethodName} {p : Program} {e : Env} {s : State} {m : MethodId} {below : List Frame} {meth : Method} {c : Code} {b : Nat} (hy : yl.cls = RL) (hz : gz G = true) (hB : s.heap.size = gB G) (hb : gs G 6 = b) (hL : gL G ≤ 3072) (F : Fr G yl cL_law 4 (some .boolean) p s m #[Value.ref b] meth c) : W p (gl G) e room_1 s m #[Value.ref b] below meth c s.heap [] 0 0 (lw_Z below #[Value.ref b] s) (entryFrame m ([Value.ref b] : List Value).toArray 4) := by
  subst hb
  have hlv := lv_entry [Value.ref (gs G 6)] (n := 4) (Nat.le_of_ble_eq_true rfl)
  rw [lg_entry_eq]
  generalize (lg_sl [Value.ref (gs G 6)] ++ List.replicate (4 - (lg_sl [Value.ref (gs G 6)]).length) Slot.unset).toArray = lv at hlv ⊢
  have hLH : LH lv 4 (lvI [Value.ref (gs G 6)]) := ⟨hlv.1, hlv.2.1, fun q hq => hlv.2.2 q (by
    have h1 := ((lvL_mem _ 0 q.1 q.2).mp hq).2
    rw [Nat.sub_zero] at h1
    have h2 := lvI_args [Value.ref (gs G 6)] 0 q.1 q.2 h1
    rwa [Nat.zero_add] at h2)⟩
  have K := law_go (G := G) (Z := Zl (gB G) (gs G 6)) hy hz hL (fun ls h => law_end (G := (G.1, false, G.2.2)) (by decide) (by decide) ls h)
  have K1 := K (Nat.zero_le _) (Nat.zero_le _) p e s m #[Value.ref (gs G 6)] below meth c F s.heap [] lv ⟨fun k q hq => (by simp [wz] at hq), fun i j p q hp => (by simp [wz] at hp), fun k q hq => (by simp [wz] at hq)⟩ va_S.rf (fun _ => by rw [hB]; rfl) (hLH.sub (by simp [lsub, lvI, Value.category]))
  intro T hT X
  obtain ⟨t, a, q⟩ := K1 T hT X
  exact ⟨t, a, q ⟨hB, rfl⟩⟩
set_option maxHeartbeats 4000000 in
/-- YOUR PART: from the entry, for every script of at most 3072 ints, the law comes to its end with true -/
theorem whole_start {p : Program} {e : Env} {s : State} {m : MethodId} {below : List Frame} {meth : Method} {c : Code} (l : Launch) (hflags : l.flags = flags0) {b L : Nat} {xs : Nat → Int32} (hL : L ≤ 3072) (C0 : lw_At p s m meth c b L xs) : W p l e room_1 s m #[Value.ref b] below meth c s.heap [] 0 0 (lw_Z below #[Value.ref b] s) (entryFrame m ([Value.ref b] : List Value).toArray 4) := by
  obtain ⟨hx, hb, hr, hml, hown, hts, hX, hbl, hlocks, hgv⟩ := C0
  have ht : ∀ w ∈ gT, w.before #[Value.ref b] s = true := fun w hw => hts w (gT_in hw)
  have hA : ∀ a : Nat, a < s.heap.size → ¬ (s.heap.size ≤ a) := fun a h1 h2 => by omega
  obtain ⟨c0, i0, k0⟩ := u_known (C := RX0) (T := TX0) (N := 11) ht hinX0 (ht _ w_26)
  obtain ⟨c1, i1, k1⟩ := u_known (C := RX1) (T := TX1) (N := 7) ht hinX1 (ht _ w_257)
  obtain ⟨c2, i2, k2⟩ := u_known (C := RX2) (T := TX2) (N := 3) ht hinX2 (ht _ w_77)
  obtain ⟨c3, i3, k3⟩ := u_known (C := RX3) (T := TX3) (N := 5) ht hinX3 (ht _ w_124)
  obtain ⟨c4, i4, k4⟩ := u_known (C := RX4) (T := TX4) (N := 8) ht hinX4 (ht _ w_83)
  obtain ⟨c5, i5, k5⟩ := u_known (C := RX5) (T := TX5) (N := 6) ht hinX5 (ht _ w_286)
  obtain ⟨c6, i6, k6⟩ := u_known (C := RX6) (T := TX6) (N := 5) ht hinX6 (ht _ w_314)
  obtain ⟨c7, i7, k7⟩ := u_known (C := RX7) (T := TX7) (N := 6) ht hinX7 (ht _ w_150)
  obtain ⟨c8, i8, k8⟩ := u_known (C := RX8) (T := TX8) (N := 8) ht hinX8 (ht _ w_209)
  obtain ⟨c9, i9, k9⟩ := u_known (C := RX9) (T := TX9) (N := 6) ht hinX9 (ht _ w_180)
  obtain ⟨c10, i10, k10⟩ := u_known (C := RX10) (T := TX10) (N := 2) ht hinX10 (ht _ w_243)
  obtain ⟨c11, i11, k11⟩ := u_known (C := RX11) (T := TX11) (N := 14) ht hinX11 (ht _ w_18)
  obtain ⟨c12, i12, k12⟩ := u_known (C := RX12) (T := TX12) (N := 43) ht hinX12 (ht _ w_982)
  obtain ⟨a0, x0, m0, A0, B0, D0⟩ := Cond.arrayClass_spec (ht _ w_75)
  obtain ⟨a1, x1, m1, A1, B1, D1⟩ := Cond.arrayClass_spec (ht _ w_255)
  obtain ⟨a2, x2, m2, A2, B2, D2⟩ := Cond.arrayClass_spec (ht _ w_1117)
  obtain ⟨m3, a3, x3, A3, -, B3, D3, E3⟩ := Cond.arrayOver_spec (n := RX0) (hts _ (tw 186 (by decide +kernel)))
  obtain ⟨m4, a4, x4, A4, -, B4, D4, E4⟩ := Cond.arrayOver_spec (n := RX6) (hts _ (tw 313 (by decide +kernel)))
  obtain ⟨t0, Z0, T0⟩ := tabs_0 (A := fun q => s.heap.size ≤ q) hgv hts hA
  obtain ⟨t1, Z1, T1⟩ := tabs_1 (A := fun q => s.heap.size ≤ q) hgv hts hA
  obtain ⟨t2, Z2, T2⟩ := tabs_2 (A := fun q => s.heap.size ≤ q) hgv hts hA
  obtain ⟨t3, Z3, T3⟩ := tabs_3 (A := fun q => s.heap.size ≤ q) hgv hts hA
  obtain ⟨t4, Z4, T4⟩ := tabs_4 (A := fun q => s.heap.size ≤ q) hgv hts hA
  obtain ⟨t5, Z5, T5⟩ := tabs_5 (A := fun q => s.heap.size ≤ q) hgv hts hA
  obtain ⟨scr, s1, s2, s3, s4, s5⟩ := hX
  have TS : va_T .int b L (fun j => .int (xs j)) (fun q => s.heap.size ≤ q) s s.heap := ⟨scr, s1, s2, s3, by omega, by rw [s4], s5, hA b hbl⟩
  refine walk_of (G := (l, true, s.heap.size, ((fun k => match k with | 0 => c0 | 1 => c1 | 2 => c2 | 3 => c3 | 4 => c4 | 5 => c5 | 6 => c6 | 7 => c7 | 8 => c8 | 9 => c9 | 10 => c10 | 11 => c11 | _ => c12), (fun k => match k with | 0 => i0 | 1 => i1 | 2 => i2 | 3 => i3 | 4 => i4 | 5 => i5 | 6 => i6 | 7 => i7 | 8 => i8 | 9 => i9 | 10 => i10 | 11 => i11 | _ => i12)), (fun k => match k with | 0 => a0 | 1 => a1 | 2 => a2 | 3 => a3 | _ => a4), (fun k => match k with | 0 => t0 | 1 => t1 | 2 => t2 | 3 => t3 | 4 => t4 | 5 => t5 | _ => b), L, xs)) (yl := ⟨RL, meth.name, "([I)Z"⟩) rfl rfl rfl rfl hL ⟨hx, hb, hr, hml, hown, ht, hlocks, rfl, Nat.le_refl _, ⟨fun c q hq => ?_, fun k q hk => ?_⟩, ⟨fun i hi => ?_, ⟨Z5, T5⟩, TS⟩, nw_of hts⟩
  · rcases (show c = 0 ∨ c = 1 ∨ c = 2 ∨ c = 3 ∨ c = 4 ∨ c = 5 ∨ c = 6 ∨ c = 7 ∨ c = 8 ∨ c = 9 ∨ c = 10 ∨ c = 11 ∨ c = 12 ∨ 13 ≤ c by omega) with rfl | rfl | rfl | rfl | rfl | rfl | rfl | rfl | rfl | rfl | rfl | rfl | rfl | h13
    · cases hq; exact k0
    · cases hq; exact k1
    · cases hq; exact k2
    · cases hq; exact k3
    · cases hq; exact k4
    · cases hq; exact k5
    · cases hq; exact k6
    · cases hq; exact k7
    · cases hq; exact k8
    · cases hq; exact k9
    · cases hq; exact k10
    · cases hq; exact k11
    · cases hq; exact k12
    · exact absurd (List.getElem?_eq_some_iff.mp hq).1 (by show ¬ c < 13; omega)
  · rcases (show k = 0 ∨ k = 1 ∨ k = 2 ∨ k = 3 ∨ k = 4 ∨ 5 ≤ k by omega) with rfl | rfl | rfl | rfl | rfl | h5
    · cases hk; exact ⟨fun n z => ⟨fun k h => (by cases h), x0, B0, m0, D0⟩, A0⟩
    · cases hk; exact ⟨fun n z => ⟨fun k h => (by cases h), x1, B1, m1, D1⟩, A1⟩
    · cases hk; exact ⟨fun n z => ⟨fun k h => (by cases h), x2, B2, m2, D2⟩, A2⟩
    · cases hk; exact ⟨fun n z => ⟨fun k h => (by cases h), x3, B3, m3, D3⟩, x3, m3, B3, D3, A3, E3⟩
    · cases hk; exact ⟨fun n z => ⟨fun k h => (by cases h), x4, B4, m4, D4⟩, x4, m4, B4, D4, A4, E4⟩
    · exact absurd (List.getElem?_eq_some_iff.mp hk).1 (by show ¬ k < 5; omega)
  · rcases (show i = 0 ∨ i = 1 ∨ i = 2 ∨ i = 3 ∨ i = 4 by omega) with rfl | rfl | rfl | rfl | rfl
    · exact ⟨Z0, T0⟩
    · exact ⟨Z1, T1⟩
    · exact ⟨Z2, T2⟩
    · exact ⟨Z3, T3⟩
    · exact ⟨Z4, T4⟩
-- ===== YOUR PART ENDS =====
set_option maxHeartbeats 4000000 in
theorem lw_walk (l : Launch) (hflags : l.flags = flags0) (b : Addr) (xs : List Int32) : MetFree l x (headSpec (Jvm.Cond.code x code maxLocals ret :: tables_1) room_1) (lw_P b xs) (fun _ _ _ _ _ => True) lw_Q := by
  refine MetFree.of_bodyS (code := code) (maxLocals := maxLocals) (ret := ret) (by decide) ?_ ?_
  · intro args s m h hn
    obtain ⟨meth, c, h1, h2, h3, h4, h5, h6, -, -⟩ := Cond.code_spec hn (atoms_spec (ws := Jvm.Cond.code x code maxLocals ret :: tables_1) h _ List.mem_cons_self)
    exact ⟨meth, c, h1, h2, h3, h4, h5, h6⟩
  · intro p e s m args below meth c s₁ B hml0 hP _
    obtain ⟨rfl, hx, hbd, hgv⟩ := hP
    obtain ⟨scr, harrAt, hlist, hof, hsmall⟩ := hx
    obtain ⟨hcb, hkn, -, -⟩ := State.arrayAt?_spec harrAt
    have hown : s.vm.findClass R_law = some m.cls := findClass_of_methodNamed B.named
    have hts0 : ∀ c ∈ (Jvm.Cond.code x code maxLocals ret :: tables_1), c.before #[Value.ref b] s = true := atoms_spec (ws := Jvm.Cond.code x code maxLocals ret :: tables_1) B.pre
    have hts : ∀ w ∈ lw_tbl, w.before #[Value.ref b] s = true := k2_hts_sels lw_privs (fun w hw => hts0 w (List.mem_cons_of_mem _ hw)) lw_privs_ok
    have hml : c.maxLocals = 4 := B.maxLocals_eq (hts0 _ List.mem_cons_self)
    have X₀ : Stand p l e room_1 s m #[Value.ref b] below meth c s₁ [] 0 0 := Stand.of_body B
    have hh0 : s₁.heap = s.heap := by rw [B.state]; rfl
    have hsz : scr.slots.size = xs.length := by rw [← Array.length_toList, hlist, List.length_map]
    have hval : ∀ j : Nat, j < xs.length → scr.slots[j]? = some (.int (xs.getD j 0)) := fun j hj => by
      rw [← Array.getElem?_toList, hlist]
      simp [hj]
    have hbl : b < s.heap.size := (Array.getElem?_eq_some_iff.mp hcb).1
    have hX : va_X b xs.length (fun j => xs.getD j 0) s s.heap := ⟨scr, hcb, hof, hkn, hsz, hval⟩
    have K : W p l e room_1 s m #[Value.ref b] below meth c s₁.heap [] 0 0 (lw_Z below #[Value.ref b] s) (entryFrame m ([Value.ref b] : List Value).toArray 4) := by
      rw [hh0]
      exact whole_start l hflags hbd ⟨B.exec, B.bytes, B.returns, hml, hown, hts, hX, hbl, B.notSynchronized, hgv⟩
    obtain ⟨t, a1, o, b1, b2, b3⟩ := K s₁ rfl X₀
    exact ⟨t, o, a1, b1, b2, b3⟩
theorem lw_pre_spec {args : Array Value} {s : State} (h : (Jvm.Cond.and given_1 narrow_1).before args s = true) (hr : rest_1_c.before args s = true) : ∃ (b : Addr) (xs : List Int32), lw_P b xs args s := by
  have hs := flat_of_before _ h
  have hq := flat_of_before _ hr
  have hc : (Cond.count 1).before args s = true := hs _ (by decide +kernel)
  have harr : (Cond.arrayOf (.arg 0) .int).before args s = true := hs _ (by decide +kernel)
  have hle : (Cond.le (.length (.arg 0)) (.int 3072)).before args s = true := hs _ (by decide +kernel)
  have hlen : (Cond.isInt (.length (.arg 0))).before args s = true := hq _ (by decide +kernel)
  have hall : (Cond.all (.arg 0) (.isInt (.elem (.arg 0) (.index 0)))).before args s = true := hq _ (by decide +kernel)
  obtain ⟨b, xs, hb, hx⟩ := State.ints_of_pre rfl harr hlen hall
  have hsm : xs.length < 2 ^ 31 := hx.choose_spec.2.2.2
  have hev : (Term.length (.arg 0)).eval args s none [] s = some (.int xs.length.toInt32) := hx.length_eval hb
  have hv := Cond.le_ints hev (show (Term.int 3072).eval args s none [] s = some (.int 3072) from rfl)
  have hd : xs.length.toInt32 ≤ 3072 := by
    simpa [Cond.before, Cond.holds, hv] using hle
  have hN : xs.length ≤ 3072 := (Int32.ofNat_le_ofNat hsm (by decide)).mp (show Int32.ofNat xs.length ≤ Int32.ofNat 3072 from hd)
  exact ⟨b, xs, Cond.one_arg hc (show args[0]? = some (.ref b) from hb), hx, hN, h⟩
theorem lw_comes (l : Launch) (hflags : l.flags = flags0) : Comes l x (Jvm.Cond.code x code maxLocals ret :: tables_1) room_1 (fun tb e args s => Calls_1 tb e args s ∧ rest_1 tb e args s ∧ Pre_1 tb e args s)
    (fun _ _ args s o t => lw_Q args s o t) := by
  intro p e ha hc hk s m args below hf hfit hheap happ hpre
  obtain ⟨b, xs, hP⟩ := lw_pre_spec hpre.2.2 hpre.2.1
  obtain ⟨k, o, h1, h2, h3, hQ⟩ := lw_walk l hflags b xs p e ha hc hk s m args below hf ((Spec.applies_iff_loose hf).mp happ).1 hP trivial
  exact ⟨k, o, h1, h2, h3, hQ⟩
theorem lw_frame {s t : State} {o : Outcome} {args : Array Value} (h : Framed s o t [] 600000 7302249) :
    Framed s o t (fieldLocs frame_1_writes args s ++ arrayLocs frame_1_arrays args s ++ staticLocs frame_1_statics s) 600000 7302249 := h
theorem lw_limb (L : Cond) (hL : ∀ (args : Array Value) (s t : State), L.after args s (.returned (some (.int 1))) t = true) :
    ArmFor flags0 classFile x code maxLocals ret World_1 tables_1 room_1 Calls_1 rest_1 Pre_1
      (fun tb e a s o t => postC L tb e a s o t ∧ Framed s o t (fieldLocs frame_1_writes a s ++ arrayLocs frame_1_arrays a s ++ staticLocs frame_1_statics s) 600000 7302249) := by
  intro l hflags _ _ p e ha hc hk s m args below hf hfit hheap happ hpre
  obtain ⟨k, o, h1, h2, h3, rfl, hF⟩ := lw_comes l hflags p e ha hc hk s m args below hf hfit hheap happ hpre
  exact ⟨k, _, h1, h2, h3, hL args s _, lw_frame hF⟩
theorem i_vc : Claimed_1_1 ∧ Claimed_1_2 := ⟨lw_limb limb_1_1 (fun args s t => by simp [limb_1_1, Cond.after, Cond.holds, Cond.value]), lw_limb limb_1_2 (fun args s t => Cond.after_iff.mpr (by
  first | (rw [show limb_1_2 = Cond.eq .result (.int 1) from rfl, Cond.eq_ints (x := 1) (y := 1) rfl rfl]; simp; done) | (simp [limb_1_2, Cond.value, Term.eval]; done)))⟩
