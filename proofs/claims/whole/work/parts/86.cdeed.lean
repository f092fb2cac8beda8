/-! THE CLASS: of, mend, feed, law, count -/
theorem isN_t {n w : Int32} (h : isN n w = true) : ∃ n9 w9 wh, n = nI n9 ∧ w = nI w9 ∧ w9 ≤ 6 ∧ n9 < 36 ∧ whO n w = some wh ∧ WHx n9 w9 wh := by
  unfold isN at h
  unfold whO
  by_cases e : inR 0 (nI 3) w = true
  · rw [if_pos e] at h ⊢
    rw [if_pos h]
    obtain ⟨w9, hw9, rfl⟩ := inR_of (by decide) e
    obtain ⟨n9, hn9, rfl⟩ := inR_of (by decide) h
    rw [iN_nI (by omega), iN_nI (by omega)]
    exact ⟨n9, w9, _, rfl, rfl, by omega, by omega, rfl, Or.inl ⟨by omega, by omega, rfl⟩⟩
  · rw [if_neg e] at h ⊢
    obtain ⟨h1, h2⟩ := Bool.and_eq_true_iff.mp h
    have h2 : n = 0 := of_decide_eq_true h2
    rw [if_pos ⟨h2, h1⟩]
    obtain ⟨w9, a1, a2, rfl⟩ := inR_1 (by decide) (by decide) h1
    subst h2
    rw [iN_nI (by omega)]
    exact ⟨0, w9, _, rfl, rfl, a2, by omega, rfl, Or.inr ⟨a1, a2, rfl, by omega⟩⟩
theorem isN_f {n w : Int32} (h : isN n w = false) : whO n w = none := by
  unfold isN at h
  unfold whO
  by_cases e : inR 0 (nI 3) w = true
  · rw [if_pos e] at h ⊢
    rw [if_neg (by rw [h]; simp)]
  · rw [if_neg e] at h ⊢
    rw [if_neg (fun z => by rw [z.2, decide_eq_true z.1] at h; cases h)]
theorem mayO_eq {k : Nat} {x : Int32} (h : k ≤ 6) : mayO k x = inR ((sI 0).getD k 0) ((sI 1).getD k 0) x := by
  rcases (show k = 0 ∨ k = 1 ∨ k = 2 ∨ k = 3 ∨ k = 4 ∨ k = 5 ∨ k = 6 by omega) with rfl | rfl | rfl | rfl | rfl | rfl | rfl <;> rfl
theorem mayN_of {k x : Nat} (hk : k ≤ 6) (h : mayO k (nI x) = true) (hx : x < 2147483648) : mayN k x := by
  rw [mayO_eq hk] at h
  unfold inR at h
  obtain ⟨h1, h2⟩ := Bool.and_eq_true_iff.mp h
  exact ⟨of_decide_eq_true h1, of_decide_eq_true h2, hx⟩
theorem LR.o16 {G : Cx} {h : List va_E} {F : Lf} {c n : Nat} {b : Nat → Nat} (H : LR G h F c b n) : ∃ fs, h[16]? = some (.inr (3, fs)) := by
  obtain ⟨t, t', _, _, ⟨p, f, x, o, _⟩, _⟩ := H
  exact ⟨_, o⟩
theorem who_7 (n : Int32) : whO n (nI 7) = none := by
  unfold whO
  rw [if_neg (by decide), if_neg (fun z => absurd z.2 (by decide))]
set_option maxRecDepth 100000 in
set_option maxHeartbeats 4000000 in
theorem p_of {G : Cx} {d c : Nat} {h h0 : List va_E} {b : MB} {v : Cv} {F : Lf} {Q : Option Value → List va_E → Prop} (hd : 6 ≤ d) (hz : gz G = false) (hC : COb G h0 h b v F c) {n w : Int32} (k0 : ((whO n w = none ∧ ¬ w = nI 7) ∨ (whO n w = none ∧ inR 0 (nI 35) n = false)) → COb G h0 h b v F c → Q (some (.int (-1))) h) (k1 : ∀ wh, whO n w = some wh → COb G h0 h b v F c → Q (some (.int (nI (gMay b wh)))) h) (k2 : ∀ m, whO n w = none → w = nI 7 → m < 36 → n = nI m → COb G h0 h b v F c → Q (some (.int (bI (clit v m)))) h) : AM G yX11_of cX11_of 3 (some .int) d 0 0 [.ref (gB G + 0), .int (n), .int (w)] h Q := by
  obtain ⟨d, rfl, he⟩ := dpos hd
  refine AM.of [some (.ref (gB G + 0)), some (.int (n)), some (.int (w))] pnX11 (Nat.le_of_ble_eq_true rfl) (by simp [lsub, lvI, Value.category]) ?_
  refine a_iloadn_2 (pc := 0) dX11_of_0 ?_
  refine a_bipush (pc := 1) (v := nI 7) dX11_of_1 (by decide) ?_
  refine a_icmp_ne (pc := 3) (tgt := 30) dX11_of_3 (by decide) (fun c_3 => ?_) (fun c_3 => ?_)
  · refine a_iloadn_1 (pc := 30) dX11_of_30 ?_
    refine a_iloadn_2 (pc := 31) dX11_of_31 ?_
    refine cs_X11_118 (pc := 32) rfl dX11_of_32 (Nat.le_of_ble_eq_true rfl) ?_
    refine p_isNumber (by omega) hz ?_
    refine b_if_eq (pc := 35) (tgt := 50) dX11_of_35 (by decide) (fun c_35 => ?_) (fun c_35 => ?_)
    · refine a_iconst (pc := 50) (v := (-1)) dX11_of_50 (by decide) ?_
      exact a_iret (pc := 51) dX11_of_51 rfl (zf hz) (by first | exact k1 wh hwh hC | exact k0 (Or.inl ⟨isN_f c_35, c_3⟩) hC | exact k0 (Or.inr ⟨isN_f c_35, c_10⟩) hC)
    · obtain ⟨n9, w9, wh, rfl, rfl, hw6, hn36, hwh, hWH⟩ := isN_t c_35
      refine a_aloadn_0 (pc := 38) dX11_of_38 ?_
      refine gf_X11_12 (pc := 39) rfl dX11_of_39 hC.c0 ?_
      refine a_iloadn_1 (pc := 42) dX11_of_42 ?_
      refine a_iloadn_2 (pc := 43) dX11_of_43 ?_
      refine cv_X11_128 (pc := 44) rfl dX11_of_44 hC.c1.1 (Nat.le_of_ble_eq_true rfl) ?_
      refine x_numberOf (by omega) hz hC.c1 (by omega) (by omega) ?_
      refine a_topi (nI (gMay b wh)) (congrArg nI (BVb_num hC.bv hWH)) ?_
      refine a_goto (pc := 47) (tgt := 51) dX11_of_47 (by decide) ?_
      exact a_iret (pc := 51) dX11_of_51 rfl (zf hz) (by first | exact k1 wh hwh hC | exact k0 (Or.inl ⟨isN_f c_35, c_3⟩) hC | exact k0 (Or.inr ⟨isN_f c_35, c_10⟩) hC)
  · refine a_iloadn_1 (pc := 6) dX11_of_6 ?_
    refine cs_X11_140 (pc := 7) rfl dX11_of_7 (Nat.le_of_ble_eq_true rfl) ?_
    refine p_isRoom (by omega) hz ?_
    refine b_if_eq (pc := 10) (tgt := 30) dX11_of_10 (by decide) (fun c_10 => ?_) (fun c_10 => ?_)
    · refine a_iloadn_1 (pc := 30) dX11_of_30 ?_
      refine a_iloadn_2 (pc := 31) dX11_of_31 ?_
      refine cs_X11_118 (pc := 32) rfl dX11_of_32 (Nat.le_of_ble_eq_true rfl) ?_
      refine p_isNumber (by omega) hz ?_
      refine b_if_eq (pc := 35) (tgt := 50) dX11_of_35 (by decide) (fun c_35 => ?_) (fun c_35 => ?_)
      · refine a_iconst (pc := 50) (v := (-1)) dX11_of_50 (by decide) ?_
        exact a_iret (pc := 51) dX11_of_51 rfl (zf hz) (by first | exact k1 wh hwh hC | exact k0 (Or.inl ⟨isN_f c_35, c_3⟩) hC | exact k0 (Or.inr ⟨isN_f c_35, c_10⟩) hC)
      · obtain ⟨n9, w9, wh, rfl, rfl, hw6, hn36, hwh, hWH⟩ := isN_t c_35
        refine a_aloadn_0 (pc := 38) dX11_of_38 ?_
        refine gf_X11_12 (pc := 39) rfl dX11_of_39 hC.c0 ?_
        refine a_iloadn_1 (pc := 42) dX11_of_42 ?_
        refine a_iloadn_2 (pc := 43) dX11_of_43 ?_
        refine cv_X11_128 (pc := 44) rfl dX11_of_44 hC.c1.1 (Nat.le_of_ble_eq_true rfl) ?_
        refine x_numberOf (by omega) hz hC.c1 (by omega) (by omega) ?_
        refine a_topi (nI (gMay b wh)) (congrArg nI (BVb_num hC.bv hWH)) ?_
        refine a_goto (pc := 47) (tgt := 51) dX11_of_47 (by decide) ?_
        exact a_iret (pc := 51) dX11_of_51 rfl (zf hz) (by first | exact k1 wh hwh hC | exact k0 (Or.inl ⟨isN_f c_35, c_3⟩) hC | exact k0 (Or.inr ⟨isN_f c_35, c_10⟩) hC)
    · obtain ⟨n_n, h_n, rfl⟩ := inR_of (by decide) c_10
      have i_n : iN (nI n_n) = n_n := iN_nI (by omega)
      refine a_aloadn_0 (pc := 13) dX11_of_13 ?_
      refine gf_X11_12 (pc := 14) rfl dX11_of_14 hC.c0 ?_
      refine a_iloadn_1 (pc := 17) dX11_of_17 ?_
      refine cv_X11_143 (pc := 18) rfl dX11_of_18 hC.c1.1 (Nat.le_of_ble_eq_true rfl) ?_
      refine x_isLit (by omega) hz hC.c1 (by omega) ?_
      refine b_if_eq (pc := 21) (tgt := 28) dX11_of_21 (by decide) (fun c_21 => ?_) (fun c_21 => ?_)
      · refine a_iconst (pc := 28) (v := nI 0) dX11_of_28 (by decide) ?_
        exact a_iret (pc := 29) dX11_of_29 rfl (zf hz) (by have k2 := k2 n_n (by rw [c_3]; exact who_7 _) c_3 (by omega) rfl hC; first | (rw [show clit v n_n = true from c_21] at k2; exact k2) | (rw [show clit v n_n = false from c_21] at k2; exact k2))
      · refine a_iconst (pc := 24) (v := nI 1) dX11_of_24 (by decide) ?_
        refine a_goto (pc := 25) (tgt := 29) dX11_of_25 (by decide) ?_
        exact a_iret (pc := 29) dX11_of_29 rfl (zf hz) (by have k2 := k2 n_n (by rw [c_3]; exact who_7 _) c_3 (by omega) rfl hC; first | (rw [show clit v n_n = true from c_21] at k2; exact k2) | (rw [show clit v n_n = false from c_21] at k2; exact k2))
theorem may_in {G : Cx} {h h0 : List va_E} {b : MB} {v : Cv} {F : Lf} {c n w wh : Nat} (H : COb G h0 h b v F c) (hw : WHx n w wh) : mayN w (gMay b wh) := by
  obtain ⟨o1, o2, o3, o4, o5, o6, o7⟩ := H.ok
  rw [← BVb_num H.bv hw]
  have bt : ∀ x : Bool, x.toNat ≤ 1 := fun x => by cases x <;> decide
  have key : ∀ (k lo hi x : Nat), (sI 0).getD k 0 = nI lo → (sI 1).getD k 0 = nI hi → lo ≤ x → x ≤ hi → hi < 1000 → mayN k x := fun k lo hi x e1 e2 h1 h2 h3 => by
    unfold mayN
    rw [e1, e2]
    exact ⟨(nI_leI (by omega) (by omega)).mpr h1, (nI_leI (by omega) (by omega)).mpr h2, by omega⟩
  rcases hw with ⟨a1, a2, rfl⟩ | ⟨a1, a2, rfl, rfl⟩
  · rcases (show w = 0 ∨ w = 1 ∨ w = 2 ∨ w = 3 by omega) with rfl | rfl | rfl | rfl
    · exact key 0 0 99 _ (by decide) (by decide) (Nat.zero_le _) (o1 n) (by decide)
    · exact key 1 0 9 _ (by decide) (by decide) (Nat.zero_le _) (o2 n) (by decide)
    · exact key 2 0 1 _ (by decide) (by decide) (Nat.zero_le _) (bt _) (by decide)
    · exact key 3 0 1 _ (by decide) (by decide) (Nat.zero_le _) (bt _) (by decide)
  · rcases (show w = 4 ∨ w = 5 ∨ w = 6 by omega) with rfl | rfl | rfl
    · exact key 4 1 9 _ (by decide) (by decide) o4.1 o4.2 (by decide)
    · exact key 5 1 4 _ (by decide) (by decide) o5.1 o5.2 (by decide)
    · exact key 6 0 11 _ (by decide) (by decide) (Nat.zero_le _) o6 (by decide)
theorem add_new {b : MB} {KA : (Nat → Nat) × (Nat → Nat) × (Nat → Nat) × (Nat → Nat)} {n w wh x : Nat} (hw : WHx n w wh) (h0 : mayN w (gMay b wh)) (h1 : mayN w x) (hI : HI b) (hd : gDone b < 40) (kr : ∀ i, i < gKeptMany b → WHx (KA.1 i) (KA.2.1 i) (gChangeAt b i) ∧ KA.2.2.1 i = gChangeWas b i ∧ KA.2.2.2 i = gChangeIs b i ∧ mayN (KA.2.1 i) (gChangeWas b i) ∧ mayN (KA.2.1 i) (gChangeIs b i)) : HI (uMay (uKeptMany (uDone (uChangeIs (uChangeWas (uChangeAt b (va_up (gChangeAt b) (gDone b) wh)) (va_up (gChangeWas b) (gDone b) (gMay b wh))) (va_up (gChangeIs b) (gDone b) x)) ((gDone b) + 1)) ((gDone b) + 1)) (va_up (gMay b) wh x)) ∧ HR (uMay (uKeptMany (uDone (uChangeIs (uChangeWas (uChangeAt b (va_up (gChangeAt b) (gDone b) wh)) (va_up (gChangeWas b) (gDone b) (gMay b wh))) (va_up (gChangeIs b) (gDone b) x)) ((gDone b) + 1)) ((gDone b) + 1)) (va_up (gMay b) wh x)) ((va_up KA.1 (gDone b) n, va_up KA.2.1 (gDone b) w, va_up KA.2.2.1 (gDone b) (gMay b wh), va_up KA.2.2.2 (gDone b) x), gDone b + 1, gDone b + 1) := by
  obtain ⟨i1, i2, i3⟩ := hI
  have wl : wh < 147 := by
    rcases hw with ⟨a1, a2, rfl⟩ | ⟨a1, a2, rfl, rfl⟩ <;> omega
  refine ⟨⟨Nat.le_refl _, by show gDone b + 1 ≤ 40; omega, fun i hi => ?_⟩, rfl, rfl, fun i hi => ?_⟩
  · have hi : i < gDone b + 1 := hi
    show va_up (gChangeAt b) (gDone b) wh i < 147
    by_cases e : i = gDone b
    · rw [e, up_eq]; exact wl
    · rw [up_ne e]; exact i3 i (by omega)
  · have hi : i < gDone b + 1 := hi
    show WHx (va_up KA.1 (gDone b) n i) (va_up KA.2.1 (gDone b) w i) (va_up (gChangeAt b) (gDone b) wh i) ∧ va_up KA.2.2.1 (gDone b) (gMay b wh) i = va_up (gChangeWas b) (gDone b) (gMay b wh) i ∧ va_up KA.2.2.2 (gDone b) x i = va_up (gChangeIs b) (gDone b) x i ∧ mayN (va_up KA.2.1 (gDone b) w i) (va_up (gChangeWas b) (gDone b) (gMay b wh) i) ∧ mayN (va_up KA.2.1 (gDone b) w i) (va_up (gChangeIs b) (gDone b) x i)
    by_cases e : i = gDone b
    · subst e
      rw [up_eq, up_eq, up_eq, up_eq, up_eq, up_eq, up_eq]
      exact ⟨hw, rfl, rfl, h0, h1⟩
    · rw [up_ne e, up_ne e, up_ne e, up_ne e, up_ne e, up_ne e, up_ne e]
      exact kr i (by omega)
theorem add_old {b : MB} {KA : (Nat → Nat) × (Nat → Nat) × (Nat → Nat) × (Nat → Nat)} {n w wh x : Nat} {A W J : Nat → Nat} (hw : WHx n w wh) (h0 : mayN w (gMay b wh)) (h1 : mayN w x) (hI : HI b) (hd : gDone b = 40) (hA : ∀ j, j < 39 → A j = gChangeAt b (j + 1)) (hW : ∀ j, j < 39 → W j = gChangeWas b (j + 1)) (hJ : ∀ j, j < 39 → J j = gChangeIs b (j + 1)) (kr : ∀ i, i < gKeptMany b → WHx (KA.1 i) (KA.2.1 i) (gChangeAt b i) ∧ KA.2.2.1 i = gChangeWas b i ∧ KA.2.2.2 i = gChangeIs b i ∧ mayN (KA.2.1 i) (gChangeWas b i) ∧ mayN (KA.2.1 i) (gChangeIs b i)) : HI (uMay (uKeptMany (uDone (uChangeIs (uChangeWas (uChangeAt b (va_up A 39 wh)) (va_up W 39 (gMay b wh))) (va_up J 39 x)) (39 + 1)) (39 + 1)) (va_up (gMay b) wh x)) ∧ HR (uMay (uKeptMany (uDone (uChangeIs (uChangeWas (uChangeAt b (va_up A 39 wh)) (va_up W 39 (gMay b wh))) (va_up J 39 x)) (39 + 1)) (39 + 1)) (va_up (gMay b) wh x)) ((va_up (shl KA.1) 39 n, va_up (shl KA.2.1) 39 w, va_up (shl KA.2.2.1) 39 (gMay b wh), va_up (shl KA.2.2.2) 39 x), 39 + 1, 39 + 1) := by
  obtain ⟨i1, i2, i3⟩ := hI
  have wl : wh < 147 := by
    rcases hw with ⟨a1, a2, rfl⟩ | ⟨a1, a2, rfl, rfl⟩ <;> omega
  have sh : ∀ (f : Nat → Nat) (j : Nat), j < 39 → shl f j = f (j + 1) := fun f j hj => if_pos hj
  refine ⟨⟨Nat.le_refl _, by show 39 + 1 ≤ 40; omega, fun i hi => ?_⟩, rfl, rfl, fun i hi => ?_⟩
  · have hi : i < 39 + 1 := hi
    show va_up A 39 wh i < 147
    by_cases e : i = 39
    · rw [e, up_eq]; exact wl
    · rw [up_ne e, hA i (by omega)]; exact i3 _ (by omega)
  · have hi : i < 39 + 1 := hi
    show WHx (va_up (shl KA.1) 39 n i) (va_up (shl KA.2.1) 39 w i) (va_up A 39 wh i) ∧ va_up (shl KA.2.2.1) 39 (gMay b wh) i = va_up W 39 (gMay b wh) i ∧ va_up (shl KA.2.2.2) 39 x i = va_up J 39 x i ∧ mayN (va_up (shl KA.2.1) 39 w i) (va_up W 39 (gMay b wh) i) ∧ mayN (va_up (shl KA.2.1) 39 w i) (va_up J 39 x i)
    by_cases e : i = 39
    · subst e
      rw [up_eq, up_eq, up_eq, up_eq, up_eq, up_eq, up_eq]
      exact ⟨hw, rfl, rfl, h0, h1⟩
    · rw [up_ne e, up_ne e, up_ne e, up_ne e, up_ne e, up_ne e, up_ne e, sh _ i (by omega), sh _ i (by omega), sh _ i (by omega), sh _ i (by omega), hA i (by omega), hW i (by omega), hJ i (by omega)]
      exact kr (i + 1) (by omega)
set_option maxRecDepth 100000 in
set_option maxHeartbeats 4000000 in
theorem p_mend {G : Cx} {d c : Nat} {h h0 : List va_E} {b : MB} {v : Cv} {F : Lf} {Q : Option Value → List va_E → Prop} (hd : 8 ≤ d) (hz : gz G = false) (hC : COb G h0 h b v F c) {n w y : Int32} (k0 : (whO n w = none ∨ ∃ x k, whO n w = some x ∧ k ≤ 6 ∧ w = nI k ∧ mayO k y = false) → COb G h0 h b v F c → Q (some (.int (-1))) h) (k2 : ∀ wh k x, whO n w = some wh → k ≤ 6 → w = nI k → mayO k y = true → y = nI x → x ≤ 99 → gMay b wh = x → COb G h0 h b v F c → Q (some (.int (nI (gMay b wh)))) h) (k3 : ∀ wh k x, whO n w = some wh → k ≤ 6 → w = nI k → mayO k y = true → y = nI x → x ≤ 99 → ¬ gMay b wh = x → ¬ gDone b = 40 → ∀ h1 v1, COb G h0 h1 (uMay (uKeptMany (uDone (uChangeIs (uChangeWas (uChangeAt b (va_up (gChangeAt b) (gDone b) wh)) (va_up (gChangeWas b) (gDone b) (gMay b wh))) (va_up (gChangeIs b) (gDone b) x)) ((gDone b) + 1)) ((gDone b) + 1)) (va_up (gMay b) wh x)) v1 F c → Q (some (.int (nI (gMay b wh)))) h1) (k4 : ∀ wh k x, whO n w = some wh → k ≤ 6 → w = nI k → mayO k y = true → y = nI x → x ≤ 99 → ¬ gMay b wh = x → gDone b = 40 → ∀ h1 v1, (∀ A W J : Nat → Nat, (∀ j, j < 39 → A j = gChangeAt b (j + 1)) → (∀ j, j < 39 → W j = gChangeWas b (j + 1)) → (∀ j, j < 39 → J j = gChangeIs b (j + 1)) → COb G h0 h1 (uMay (uKeptMany (uDone (uChangeIs (uChangeWas (uChangeAt b (va_up A 39 wh)) (va_up W 39 (gMay b wh))) (va_up J 39 x)) (39 + 1)) (39 + 1)) (va_up (gMay b) wh x)) v1 F c) → Q (some (.int (nI (gMay b wh)))) h1) : AM G yX11_mend cX11_mend 5 (some .int) d 0 0 [.ref (gB G + 0), .int (n), .int (w), .int (y)] h Q := by
  obtain ⟨d, rfl, he⟩ := dpos hd
  refine AM.of [some (.ref (gB G + 0)), some (.int (n)), some (.int (w)), some (.int (y)), none] pnX11 (Nat.le_of_ble_eq_true rfl) (by simp [lsub, lvI, Value.category]) ?_
  refine a_iloadn_1 (pc := 0) dX11_mend_0 ?_
  refine a_iloadn_2 (pc := 1) dX11_mend_1 ?_
  refine cs_X11_118 (pc := 2) rfl dX11_mend_2 (Nat.le_of_ble_eq_true rfl) ?_
  refine p_isNumber (by omega) hz ?_
  refine b_if_eq (pc := 5) (tgt := 25) dX11_mend_5 (by decide) (fun c_5 => ?_) (fun c_5 => ?_)
  · refine a_iconst (pc := 25) (v := (-1)) dX11_mend_25 (by decide) ?_
    exact a_iret (pc := 26) dX11_mend_26 rfl (zf hz) (by first | exact k0 (Or.inl (isN_f c_5)) hC | exact k0 (Or.inr ⟨wh, w9, hwh, by omega, rfl, c_22⟩) hC)
  · obtain ⟨n9, w9, wh, rfl, rfl, hw6, hn36, hwh, hWH⟩ := isN_t c_5
    refine a_iloadn_3 (pc := 8) dX11_mend_8 ?_
    refine a_gets (pc := 9) (i := 0) (by decide) dX11_mend_9 rfl w_430 ?_
    refine a_iloadn_2 (pc := 12) dX11_mend_12 ?_
    refine a_sil (pc := 13) w9 (t := 0) (by decide) dX11_mend_13 rfl (by show w9 < 7; omega) ?_
    refine a_gets (pc := 14) (i := 1) (by decide) dX11_mend_14 rfl w_413 ?_
    refine a_iloadn_2 (pc := 17) dX11_mend_17 ?_
    refine a_sil (pc := 18) w9 (t := 1) (by decide) dX11_mend_18 rfl (by show w9 < 7; omega) ?_
    refine cs_X11_101 (pc := 19) rfl dX11_mend_19 (Nat.le_of_ble_eq_true rfl) ?_
    refine x_within (by omega) hz ?_
    refine a_topi (bI (mayO w9 y)) (congrArg bI (mayO_eq hw6).symm) ?_
    refine b_if_ne (pc := 22) (tgt := 27) dX11_mend_22 (by decide) (fun c_22 => ?_) (fun c_22 => ?_)
    · obtain ⟨x9, hx9, rfl⟩ := mayO_lt c_22
      have hN : mayN w9 x9 := mayN_of hw6 c_22 (by omega)
      have m99 := BVb_lt hC.bv hC.ok (i := wh) (by rcases hWH with ⟨a1, a2, rfl⟩ | ⟨a1, a2, rfl, rfl⟩ <;> omega)
      refine a_aloadn_0 (pc := 27) dX11_mend_27 ?_
      refine gf_X11_12 (pc := 28) rfl dX11_mend_28 hC.c0 ?_
      refine a_iloadn_1 (pc := 31) dX11_mend_31 ?_
      refine a_iloadn_2 (pc := 32) dX11_mend_32 ?_
      refine cv_X11_128 (pc := 33) rfl dX11_mend_33 hC.c1.1 (Nat.le_of_ble_eq_true rfl) ?_
      refine x_numberOf (by omega) hz hC.c1 (by omega) (by omega) ?_
      refine a_topi (nI (gMay b wh)) (congrArg nI (BVb_num hC.bv hWH)) ?_
      refine a_istore_4 (pc := 36) dX11_mend_36 (by decide) (by first | rfl | trivial) ?_
      refine a_iload_4 (pc := 38) dX11_mend_38 ?_
      refine a_iloadn_3 (pc := 40) dX11_mend_40 ?_
      refine n_icmp_eq (tgt := 66) dX11_mend_41 (by decide) (by omega) (by omega) (fun c_41 => ?_) (fun c_41 => ?_)
      · refine a_iload_4 (pc := 66) dX11_mend_66 ?_
        exact a_iret (pc := 68) dX11_mend_68 rfl (zf hz) (k2 wh w9 x9 hwh hw6 rfl c_22 rfl hx9 c_41 hC)
      · refine a_aloadn_0 (pc := 44) dX11_mend_44 ?_
        refine gf_X11_12 (pc := 45) rfl dX11_mend_45 hC.c0 ?_
        refine a_iloadn_1 (pc := 48) dX11_mend_48 ?_
        refine a_iloadn_2 (pc := 49) dX11_mend_49 ?_
        refine a_iloadn_3 (pc := 50) dX11_mend_50 ?_
        refine cv_X11_132 (pc := 51) rfl dX11_mend_51 hC.c1.1 (Nat.le_of_ble_eq_true rfl) ?_
        refine z_tell (by omega) hz hC hWH hN (fun h1 hC1 => ?_)
        refine a_aloadn_0 (pc := 54) dX11_mend_54 ?_
        refine gf_X11_68 (pc := 55) rfl dX11_mend_55 hC1.c0 ?_
        refine a_iloadn_1 (pc := 58) dX11_mend_58 ?_
        refine a_iloadn_2 (pc := 59) dX11_mend_59 ?_
        refine a_iload_4 (pc := 60) dX11_mend_60 ?_
        refine a_iloadn_3 (pc := 62) dX11_mend_62 ?_
        obtain ⟨⟨KA, kd, ka⟩, K0, kr1, kr2, kr3⟩ := hC1.toH
        have kr1 : kd = gDone b := kr1
        have kr2 : ka = gKeptMany b := kr2
        subst kr1 kr2
        obtain ⟨hi1, hi2, hi3⟩ := hC.2.1.2.2.1
        have hN0 : mayN w9 (gMay b wh) := may_in hC hWH
        refine cv_X11_136 (pc := 63) rfl dX11_mend_63 K0.ob (Nat.le_of_ble_eq_true rfl) ?_
        refine h_add (by omega) hz K0 (show gDone b ≤ 40 by omega) (fun hp h2 H1 => ?_) (fun hp h2 H1 => ?_)
        · have hp : gDone b < 40 := hp
          have hd9 : ¬ gDone b = 40 := by omega
          have hC2 := COb.hq (b := uMay b (va_up (gMay b) wh x9)) (b1 := ((uMay (uKeptMany (uDone (uChangeIs (uChangeWas (uChangeAt b (va_up (gChangeAt b) (gDone b) wh)) (va_up (gChangeWas b) (gDone b) (gMay b wh))) (va_up (gChangeIs b) (gDone b) x9)) ((gDone b) + 1)) ((gDone b) + 1)) (va_up (gMay b) wh x9))).1) H1 hC1.bv (add_new hWH hN0 hN hC.2.1.2.2.1 hp kr3).1 (add_new hWH hN0 hN hC.2.1.2.2.1 hp kr3).2 hC1
          refine a_iload_4 (pc := 66) dX11_mend_66 ?_
          exact a_iret (pc := 68) dX11_mend_68 rfl (zf hz) (k3 wh w9 x9 hwh hw6 rfl c_22 rfl hx9 c_41 hd9 _ _ hC2)
        · have hd9 : gDone b = 40 := hp
          refine a_iload_4 (pc := 66) dX11_mend_66 ?_
          exact a_iret (pc := 68) dX11_mend_68 rfl (zf hz) (k4 wh w9 x9 hwh hw6 rfl c_22 rfl hx9 c_41 hd9 _ _ (fun A W J hA hW hJ => COb.hq (b := uMay b (va_up (gMay b) wh x9)) (b1 := ((uMay (uKeptMany (uDone (uChangeIs (uChangeWas (uChangeAt b (va_up A 39 wh)) (va_up W 39 (gMay b wh))) (va_up J 39 x9)) (39 + 1)) (39 + 1)) (va_up (gMay b) wh x9))).1) H1 hC1.bv (add_old hWH hN0 hN hC.2.1.2.2.1 hd9 hA hW hJ kr3).1 (add_old hWH hN0 hN hC.2.1.2.2.1 hd9 hA hW hJ kr3).2 hC1))
    · refine a_iconst (pc := 25) (v := (-1)) dX11_mend_25 (by decide) ?_
      exact a_iret (pc := 26) dX11_mend_26 rfl (zf hz) (by first | exact k0 (Or.inl (isN_f c_5)) hC | exact k0 (Or.inr ⟨wh, w9, hwh, by omega, rfl, c_22⟩) hC)
set_option maxRecDepth 100000 in
set_option maxHeartbeats 4000000 in
theorem p_feed {G : Cx} {d c : Nat} {h h0 : List va_E} {b : MB} {v : Cv} {F : Lf} {Q : Option Value → List va_E → Prop} (hd : 6 ≤ d) (hz : gz G = false) (hC : COb G h0 h b v F c) {x : Int32} (k0 : inR 0 (nI 255) x = false → COb G h0 h b v F c → Q (some (.int (-1))) h) (k2 : ∀ n, n ≤ 255 → x = nI n → gTapeMany b = 120 → COb G h0 h b v F c → Q (some (.int (-3))) h) (k1 : ∀ n, n ≤ 255 → x = nI n → gTapeMany b < 120 → ∀ h1, COb G h0 h1 (uTapeMany (uTape b (va_up (gTape b) (gTapeMany b) n)) (gTapeMany b + 1)) v F c → Q (some (.int (nI (gTapeMany b + 1)))) h1) : AM G yX11_feed cX11_feed 2 (some .int) d 0 0 [.ref (gB G + 0), .int (x)] h Q := by
  obtain ⟨d, rfl, he⟩ := dpos hd
  refine AM.of [some (.ref (gB G + 0)), some (.int (x))] pnX11 (Nat.le_of_ble_eq_true rfl) (by simp [lsub, lvI, Value.category]) ?_
  refine a_iloadn_1 (pc := 0) dX11_feed_0 ?_
  refine a_iconst (pc := 1) (v := nI 0) dX11_feed_1 (by decide) ?_
  refine a_sipush (pc := 2) (v := nI 255) dX11_feed_2 (by decide) ?_
  refine cs_X11_101 (pc := 5) rfl dX11_feed_5 (Nat.le_of_ble_eq_true rfl) ?_
  refine x_within (by omega) hz ?_
  refine a_topi (bI (inR 0 (nI 255) x)) rfl ?_
  refine b_if_eq (pc := 8) (tgt := 22) dX11_feed_8 (by decide) (fun c_8 => ?_) (fun c_8 => ?_)
  · refine a_iconst (pc := 22) (v := (-1)) dX11_feed_22 (by decide) ?_
    exact a_iret (pc := 23) dX11_feed_23 rfl (zf hz) (k0 c_8 hC)
  · obtain ⟨n_x, h_x, rfl⟩ := inR_of (by decide) c_8
    have i_x : iN (nI n_x) = n_x := iN_nI (by omega)
    refine a_aloadn_0 (pc := 11) dX11_feed_11 ?_
    refine gf_X11_29 (pc := 12) rfl dX11_feed_12 hC.c0 ?_
    refine a_iloadn_1 (pc := 15) dX11_feed_15 ?_
    have t120 := hC.2.1.2.2.2.2.2.2.1
    have t255 := hC.2.1.2.2.2.2.2.2.2
    refine cv_X11_146 (pc := 16) rfl dX11_feed_16 (LR.o16 hC.c3).choose_spec (Nat.le_of_ble_eq_true rfl) ?_
    refine l_add (by omega) hz hC.c3 t120 (fun hp h1 hl9 e9 L1 => ?_) (fun hp => ?_)
    · have hC1 := COb.tp hl9 e9 L1 (by omega) (fun i hi => by
        unfold va_up; split
        · omega
        · exact t255 i (by omega)) hC
      refine a_goto (pc := 19) (tgt := 23) dX11_feed_19 (by decide) ?_
      exact a_iret (pc := 23) dX11_feed_23 rfl (zf hz) (k1 n_x (by omega) rfl hp _ hC1)
    · refine a_goto (pc := 19) (tgt := 23) dX11_feed_19 (by decide) ?_
      exact a_iret (pc := 23) dX11_feed_23 rfl (zf hz) (k2 n_x (by omega) rfl (by omega) hC)
set_option maxRecDepth 100000 in
set_option maxHeartbeats 4000000 in
theorem p_count {G : Cx} {d c : Nat} {h h0 : List va_E} {b : MB} {v : Cv} {F : Lf} {Q : Option Value → List va_E → Prop} (hd : 5 ≤ d) (hz : gz G = false) (hC : COb G h0 h b v F c) {x : Int32} (k : ∀ y, y = spCount b v x → COb G h0 h b v F c → Q (some (.int y)) h) : AM G yX11_count cX11_count 2 (some .int) d 0 0 [.ref (gB G + 0), .int x] h Q := by
  obtain ⟨d, rfl, he⟩ := dpos hd
  obtain ⟨⟨KA, kd, ka⟩, K0, kr1, kr2, kr3⟩ := hC.toH
  obtain ⟨sa, sr, S0, sr1, sr2, sr3, sr4⟩ := hC.toS
  obtain ⟨t, t2, _, _, ⟨p, f, x0, o16, _⟩, _⟩ := hC.c3
  cases hx : inR 0 (nI 5) x with
  | false =>
    refine AM.of [some (.ref (gB G + 0)), some (.int x)] pnX11 (Nat.le_of_ble_eq_true rfl) (by simp [lsub, lvI, Value.category]) ?_
    refine a_iloadn_1 (pc := 0) dX11_count_0 ?_
    refine a_tableOut (pc := 1) (tgt := 91) dX11_count_1 (inR_out5 hx) (by decide) ?_
    refine a_iconst (pc := 91) (v := (-1)) dX11_count_91 (by decide) ?_
    exact a_iret (pc := 92) dX11_count_92 rfl (zf hz) (k _ (by unfold spCount; rw [hx]; rfl) hC)
  | true =>
    obtain ⟨m, hm5, rfl⟩ := inR_of (by decide) hx
    have im : iN (nI m) = m := iN_nI (by omega)
    rcases (show m = 0 ∨ m = 1 ∨ m = 2 ∨ m = 3 ∨ m = 4 ∨ m = 5 by omega) with rfl | rfl | rfl | rfl | rfl | rfl
    · refine AM.of [some (.ref (gB G + 0)), some (.int (nI 0))] pnX11 (Nat.le_of_ble_eq_true rfl) (by simp [lsub, lvI, Value.category]) ?_
      refine a_iloadn_1 (pc := 0) dX11_count_0 ?_
      refine a_tableIn (pc := 1) (off := 39) (tgt := 40) dX11_count_1 (by decide) (by decide) (by decide) (by decide) ?_
      refine a_aloadn_0 (pc := 40) dX11_count_40 ?_
      refine gf_X11_12 (pc := 41) rfl dX11_count_41 hC.c0 ?_
      refine cv_X11_337 (pc := 44) rfl dX11_count_44 hC.c1.1 (Nat.le_of_ble_eq_true rfl) ?_
      refine x_lit (by omega) hz hC.c1 ?_
      refine cs_X11_248 (pc := 47) rfl dX11_count_47 (Nat.le_of_ble_eq_true rfl) ?_
      refine x_bitCount (by omega) hz ?_
      refine a_topi (nI (ctn (clit v) 36)) (congrArg nI (ct_bL _)) ?_
      exact a_iret (pc := 50) dX11_count_50 rfl (zf hz) (k _ (by unfold spCount; rw [hx, im]; rfl) hC)
    · refine AM.of [some (.ref (gB G + 0)), some (.int (nI 1))] pnX11 (Nat.le_of_ble_eq_true rfl) (by simp [lsub, lvI, Value.category]) ?_
      refine a_iloadn_1 (pc := 0) dX11_count_0 ?_
      refine a_tableIn (pc := 1) (off := 50) (tgt := 51) dX11_count_1 (by decide) (by decide) (by decide) (by decide) ?_
      refine a_aloadn_0 (pc := 51) dX11_count_51 ?_
      refine gf_X11_12 (pc := 52) rfl dX11_count_52 hC.c0 ?_
      refine cv_X11_168 (pc := 55) rfl dX11_count_55 hC.c1.1 (Nat.le_of_ble_eq_true rfl) ?_
      refine x_darkCount (by omega) hz hC.c1 ?_
      exact a_iret (pc := 58) dX11_count_58 rfl (zf hz) (k _ (by unfold spCount; rw [hx, im]; rfl) hC)
    · refine AM.of [some (.ref (gB G + 0)), some (.int (nI 2))] pnX11 (Nat.le_of_ble_eq_true rfl) (by simp [lsub, lvI, Value.category]) ?_
      refine a_iloadn_1 (pc := 0) dX11_count_0 ?_
      refine a_tableIn (pc := 1) (off := 58) (tgt := 59) dX11_count_1 (by decide) (by decide) (by decide) (by decide) ?_
      refine a_aloadn_0 (pc := 59) dX11_count_59 ?_
      refine gf_X11_29 (pc := 60) rfl dX11_count_60 hC.c0 ?_
      refine gf_X11_341 (pc := 63) rfl dX11_count_63 o16 ?_
      exact a_iret (pc := 66) dX11_count_66 rfl (zf hz) (k _ (by unfold spCount; rw [hx, im]; rfl) hC)
    · refine AM.of [some (.ref (gB G + 0)), some (.int (nI 3))] pnX11 (Nat.le_of_ble_eq_true rfl) (by simp [lsub, lvI, Value.category]) ?_
      refine a_iloadn_1 (pc := 0) dX11_count_0 ?_
      refine a_tableIn (pc := 1) (off := 66) (tgt := 67) dX11_count_1 (by decide) (by decide) (by decide) (by decide) ?_
      refine a_aloadn_0 (pc := 67) dX11_count_67 ?_
      refine gf_X11_68 (pc := 68) rfl dX11_count_68 hC.c0 ?_
      refine gf_X11_344 (pc := 71) rfl dX11_count_71 K0.ob ?_
      refine a_topi (nI (gDone b)) (congrArg nI kr1) ?_
      exact a_iret (pc := 74) dX11_count_74 rfl (zf hz) (k _ (by unfold spCount; rw [hx, im]; rfl) hC)
    · refine AM.of [some (.ref (gB G + 0)), some (.int (nI 4))] pnX11 (Nat.le_of_ble_eq_true rfl) (by simp [lsub, lvI, Value.category]) ?_
      refine a_iloadn_1 (pc := 0) dX11_count_0 ?_
      refine a_tableIn (pc := 1) (off := 74) (tgt := 75) dX11_count_1 (by decide) (by decide) (by decide) (by decide) ?_
      refine a_aloadn_0 (pc := 75) dX11_count_75 ?_
      refine gf_X11_75 (pc := 76) rfl dX11_count_76 hC.c0 ?_
      refine gf_X11_294 (pc := 79) rfl dX11_count_79 S0.ob ?_
      refine a_topi (nI (gBodies b)) (congrArg nI sr1) ?_
      exact a_iret (pc := 82) dX11_count_82 rfl (zf hz) (k _ (by unfold spCount; rw [hx, im]; rfl) hC)
    · refine AM.of [some (.ref (gB G + 0)), some (.int (nI 5))] pnX11 (Nat.le_of_ble_eq_true rfl) (by simp [lsub, lvI, Value.category]) ?_
      refine a_iloadn_1 (pc := 0) dX11_count_0 ?_
      refine a_tableIn (pc := 1) (off := 82) (tgt := 83) dX11_count_1 (by decide) (by decide) (by decide) (by decide) ?_
      refine a_aloadn_0 (pc := 83) dX11_count_83 ?_
      refine gf_X11_75 (pc := 84) rfl dX11_count_84 hC.c0 ?_
      refine gf_X11_347 (pc := 87) rfl dX11_count_87 S0.ob ?_
      refine a_topi (nI (gRan b)) (congrArg nI sr3) ?_
      exact a_iret (pc := 90) dX11_count_90 rfl (zf hz) (k _ (by unfold spCount; rw [hx, im]; rfl) hC)

