/-! THE CLASS: three, rooms -/
theorem lN_3 {x : Nat} (hx : x ≤ 20) : (3 : Int64) * lN x = lN (3 * x) := by
  have h3 : (3 : Int64).toInt = 3 := by decide
  refine Int64.toInt_inj.mp ?_
  rw [Int64.toInt_mul, lN_toInt (by omega), lN_toInt (by omega), h3, Int.bmod_eq_of_le (by omega) (by omega)]
  omega
theorem lN_n0 {n : Nat} (h : n < 9223372036854775808) : ¬ lN n < 0 := fun z => by
  have := Int64.lt_iff_toInt_lt.mp z
  have h0 : (0 : Int64).toInt = 0 := by decide
  rw [lN_tI h, h0] at this
  omega
theorem th_le {m n : Nat} (hm : m ≤ 60) (hn : n < 4294967296) : lg_cmp (lN n) (nI m - nI 3).toInt64 ≤ 0 ↔ n + 3 ≤ m := by
  rw [← Int32.not_lt, lg_gt, Int64.lt_iff_toInt_lt, Int32.toInt_toInt64, Int32.toInt_sub, nI_toInt (by omega), nI_toInt (by omega), lN_tI (by omega), Int.bmod_eq_of_le (by omega) (by omega)]
  omega
theorem by_lN {x : Int64} {n : Nat} (hb : BYt x) (h : x.toInt32 = nI n) (hn : n < 2147483648) : x = lN n := by
  have hb : x = x.toInt32.toInt64 := hb
  rw [h, nI_l hn] at hb
  exact hb
theorem by_no {x : Int64} {y : Int32} {hi : Nat} (hh : hi < 2147483648) (h : x.toInt32 = y) (h1 : inR 0 (nI hi) y = false) (h2 : inL 0 (lN hi) x = true) : False := by
  obtain ⟨n, hn, rfl⟩ := inL_of hh h2
  have e : (lN n).toInt32 = nI n := lN_i n
  rw [← h, e, inR_nI hh (by omega), decide_eq_true hn] at h1
  cases h1
section CDs
variable {G : Cx} {y : MethodName} {cc : ByteArray} {mL : Nat} {rt : Option FieldType} {R : Room} {Z : List Frame → Array Value → State → State → Prop} {cn sn pc : Nat} {ls : List (Option Value)} {st : List Value} {h h0 : List va_E} {b : MB} {v : Cv} {F : Lf} {c : Nat}
theorem cs_dr {j x : Nat} (H : COb G h0 h b v F c) (hd : decode cc pc = .ok (.iastore, 1)) (hj : j < 36) (hx : x ≤ 9) (kk : ∀ h1, COb G h0 h1 (uMay b (va_up (gMay b) (36 + j) x)) (cTell v j 1 x) F c → AW G y cc mL rt R Z cn sn (pc + 1) ls st h1) : AW G y cc mL rt R Z cn sn pc ls (.int (nI x) :: .int (nI j) :: .ref (gB G + 3) :: st) h := by
  have hc := H.c1
  refine b_iast j hd hc.2.2.1 rfl hj (by decide) ?_
  refine a_h (congrArg (fun e => h.set 3 e) (show _ = (ints G 36 (va_up (cG v) j x) : va_E) from ?_)) (kk _ (COb.city List.length_set (fun k hk => hs_ne (by omega) rfl) ⟨hs_ne (by decide) hc.1, hs_ne (by decide) hc.2.1, hs_eq hc.2.2.1, okC_tell hc.2.2.2 (r := j) (w := 1) (x := x) (by decide) (fun _ => hj) ?_⟩ (BVb_tell (n := j) (w := 1) H.bv (Or.inl ⟨by omega, hj, by omega⟩) (fun q => by omega)) H))
  · exact congrArg (fun g : Nat → Int32 => (show va_E from .inl (gc G 0, 36, .inl g))) (upd_nI _ _ _)
  · exact ⟨show (0 : Int32) ≤ nI x from Int32.not_lt.mp (nI_nn (by omega)), show nI x ≤ nI 9 from (nI_leI (by omega) (by decide)).mpr hx, by omega⟩
end CDs
set_option maxRecDepth 100000 in
set_option maxHeartbeats 4000000 in
theorem p_threeN {G : Cx} {d c : Nat} {h h0 : List va_E} {b : MB} {v : Cv} {F : Lf} {Q : Option Value → List va_E → Prop} (hd : 4 ≤ d) (hz : gz G = false) (hC : COb G h0 h b v F c) {q : Nat} {x : Int64} (hx : x < 0) (k0 : COb G h0 h b v F c → Q (some (.int (nI 0))) h) : AM G yX11_tellThree cX11_tellThree 8 (some .boolean) d 0 0 [.ref (gB G + 0), .ref (gB G + (66 + 2 * q)), .long (x)] h Q := by
  obtain ⟨d, rfl, he⟩ := dpos hd
  refine AM.of [some (.ref (gB G + 0)), some (.ref (gB G + (66 + 2 * q))), some (.long (x)), none, none, none, none, none] pnX11 (Nat.le_of_ble_eq_true rfl) (by simp [lsub, lvI, Value.category]) ?_
  refine a_lloadn_2 (pc := 0) dX11_tellThree_0 ?_
  refine a_lconst (pc := 1) (v := 0) dX11_tellThree_1 (by decide) ?_
  refine a_lcmp (pc := 2) dX11_tellThree_2 ?_
  refine a_if_lt (pc := 3) (tgt := 18) dX11_tellThree_3 (by decide) (fun c_3 => ?_) (fun c_3 => absurd ((lg_lt _ _).mpr hx) c_3)
  refine a_iconst (pc := 18) (v := nI 0) dX11_tellThree_18 (by decide) ?_
  exact a_zret (pc := 19) dX11_tellThree_19 rfl (by first | rfl | exact bI_nar _ | decide) (zf hz) (k0 hC)
set_option maxRecDepth 100000 in
set_option maxHeartbeats 4000000 in
theorem p_three {G : Cx} {d c : Nat} {h h0 : List va_E} {b : MB} {v : Cv} {F : Lf} {Q : Option Value → List va_E → Prop} (hd : 4 ≤ d) (hz : gz G = false) (hC : COb G h0 h b v F c) {q i : Nat} (hq : q < 6) (hs : gShelf b q = nI 50) (hi : i < 4294967296) (k0 : rowT (elO b q) (gMany b q) i = none → COb G h0 h b v F c → Q (some (.int (nI 0))) h) (k1 : ∀ r w g, rowT (elO b q) (gMany b q) i = some (r, w, g) → ∀ h1 v1, COb G h0 h1 (uMay b (va_up (va_up (gMay b) r w) (36 + r) g)) v1 F c → Q (some (.int (nI 1))) h1) : AM G yX11_tellThree cX11_tellThree 8 (some .boolean) d 0 0 [.ref (gB G + 0), .ref (gB G + (66 + 2 * q)), .long (lN (i))] h Q := by
  obtain ⟨d, rfl, he⟩ := dpos hd
  obtain ⟨sc, rw9, so, sz, el, S0, R0⟩ := hC.toQ (q := q) hq
  have hB := hC.2.1.2.2.2.1.1
  have m60 := (hC.2.1.2.2.2.1.2 q hq).2
  obtain ⟨e1, e2, e3, e4⟩ := shr_el hB R0 (s := 0) (by decide) hs
  subst e2
  have BY := e4 e1
  refine AM.of [some (.ref (gB G + 0)), some (.ref (gB G + (66 + 2 * q))), some (.long (lN (i))), none, none, none, none, none] pnX11 (Nat.le_of_ble_eq_true rfl) (by simp [lsub, lvI, Value.category]) ?_
  refine a_lloadn_2 (pc := 0) dX11_tellThree_0 ?_
  refine a_lconst (pc := 1) (v := 0) dX11_tellThree_1 (by decide) ?_
  refine a_lcmp (pc := 2) dX11_tellThree_2 ?_
  refine a_if_lt (pc := 3) (tgt := 18) dX11_tellThree_3 (by decide) (fun c_3 => absurd ((lg_lt _ _).mp c_3) (lN_n0 (by omega))) (fun c_3 => ?_)
  refine a_lloadn_2 (pc := 6) dX11_tellThree_6 ?_
  refine a_aloadn_1 (pc := 7) dX11_tellThree_7 ?_
  refine gf_X11_350 (pc := 8) rfl dX11_tellThree_8 S0.2.2.1 ?_
  refine a_iconst (pc := 11) (v := nI 3) dX11_tellThree_11 (by decide) ?_
  refine a_isub (pc := 12) dX11_tellThree_12 ?_
  refine a_i2l (pc := 13) dX11_tellThree_13 ?_
  refine a_lcmp (pc := 14) dX11_tellThree_14 ?_
  refine a_if_le (pc := 15) (tgt := 20) dX11_tellThree_15 (by decide) (fun c_15 => ?_) (fun c_15 => ?_)
  · have hle := (th_le m60 hi).mp c_15
    refine a_lloadn_2 (pc := 20) dX11_tellThree_20 ?_
    refine n_l2i dX11_tellThree_21 ?_
    refine a_istore_4 (pc := 22) dX11_tellThree_22 (by decide) (by first | rfl | trivial) ?_
    refine a_aloadn_1 (pc := 24) dX11_tellThree_24 ?_
    refine a_iload_4 (pc := 25) dX11_tellThree_25 ?_
    refine cv_X11_311 (pc := 27) rfl dX11_tellThree_27 S0.2.2.1 (Nat.le_of_ble_eq_true rfl) ?_
    refine s_at (by omega) hz S0.2.2 (by omega) ?_
    refine a_topl (gItems b (60 * q + i)) (by rw [if_pos (by omega)]; exact e3 i (by omega)) ?_
    obtain ⟨xr, exr⟩ : ∃ y, (gItems b (60 * q + i)).toInt32 = y := ⟨_, rfl⟩
    refine a_l2i (pc := 30) dX11_tellThree_30 ?_
    refine a_topi xr exr ?_
    refine a_istore_5 (pc := 31) dX11_tellThree_31 (by decide) (by first | rfl | trivial) ?_
    refine a_aloadn_1 (pc := 33) dX11_tellThree_33 ?_
    refine a_iload_4 (pc := 34) dX11_tellThree_34 ?_
    refine a_iconst (pc := 36) (v := nI 1) dX11_tellThree_36 (by decide) ?_
    refine n_iadd dX11_tellThree_37 ?_
    refine cv_X11_311 (pc := 38) rfl dX11_tellThree_38 S0.2.2.1 (Nat.le_of_ble_eq_true rfl) ?_
    refine s_at (by omega) hz S0.2.2 (by omega) ?_
    refine a_topl (gItems b (60 * q + (i + 1))) (by rw [if_pos (by omega)]; exact e3 (i + 1) (by omega)) ?_
    obtain ⟨xw, exw⟩ : ∃ y, (gItems b (60 * q + (i + 1))).toInt32 = y := ⟨_, rfl⟩
    refine a_l2i (pc := 41) dX11_tellThree_41 ?_
    refine a_topi xw exw ?_
    refine a_istore_6 (pc := 42) dX11_tellThree_42 (by decide) (by first | rfl | trivial) ?_
    refine a_aloadn_1 (pc := 44) dX11_tellThree_44 ?_
    refine a_iload_4 (pc := 45) dX11_tellThree_45 ?_
    refine a_iconst (pc := 47) (v := nI 2) dX11_tellThree_47 (by decide) ?_
    refine n_iadd dX11_tellThree_48 ?_
    refine cv_X11_311 (pc := 49) rfl dX11_tellThree_49 S0.2.2.1 (Nat.le_of_ble_eq_true rfl) ?_
    refine s_at (by omega) hz S0.2.2 (by omega) ?_
    refine a_topl (gItems b (60 * q + (i + 2))) (by rw [if_pos (by omega)]; exact e3 (i + 2) (by omega)) ?_
    obtain ⟨xg, exg⟩ : ∃ y, (gItems b (60 * q + (i + 2))).toInt32 = y := ⟨_, rfl⟩
    refine a_l2i (pc := 52) dX11_tellThree_52 ?_
    refine a_topi xg exg ?_
    refine a_istore_7 (pc := 53) dX11_tellThree_53 (by decide) (by first | rfl | trivial) ?_
    refine a_iload_5 (pc := 55) dX11_tellThree_55 ?_
    refine cs_X11_140 (pc := 57) rfl dX11_tellThree_57 (Nat.le_of_ble_eq_true rfl) ?_
    refine p_isRoom (by omega) hz ?_
    refine b_if_eq (pc := 60) (tgt := 88) dX11_tellThree_60 (by decide) (fun c_60 => ?_) (fun c_60 => ?_)
    · refine a_iconst (pc := 88) (v := nI 0) dX11_tellThree_88 (by decide) ?_
      exact a_zret (pc := 89) dX11_tellThree_89 rfl (by first | rfl | exact bI_nar _ | decide) (zf hz) (k0 (rowT_no (fun z => by_no (by decide) exr c_60 z.2.1)) hC)
    · obtain ⟨n_xr, h_xr, rfl⟩ := inR_of (by decide) c_60
      have i_xr : iN (nI n_xr) = n_xr := iN_nI (by omega)
      refine a_iload_6 (pc := 63) dX11_tellThree_63 ?_
      refine a_iconst (pc := 65) (v := nI 0) dX11_tellThree_65 (by decide) ?_
      refine a_bipush (pc := 66) (v := nI 99) dX11_tellThree_66 (by decide) ?_
      refine cs_X11_101 (pc := 68) rfl dX11_tellThree_68 (Nat.le_of_ble_eq_true rfl) ?_
      refine x_within (by omega) hz ?_
      refine a_topi (bI (inR 0 (nI 99) xw)) rfl ?_
      refine b_if_eq (pc := 71) (tgt := 88) dX11_tellThree_71 (by decide) (fun c_71 => ?_) (fun c_71 => ?_)
      · refine a_iconst (pc := 88) (v := nI 0) dX11_tellThree_88 (by decide) ?_
        exact a_zret (pc := 89) dX11_tellThree_89 rfl (by first | rfl | exact bI_nar _ | decide) (zf hz) (k0 (rowT_no (fun z => by_no (by decide) exw c_71 z.2.2.1)) hC)
      · obtain ⟨n_xw, h_xw, rfl⟩ := inR_of (by decide) c_71
        have i_xw : iN (nI n_xw) = n_xw := iN_nI (by omega)
        refine a_iload_7 (pc := 74) dX11_tellThree_74 ?_
        refine a_iconst (pc := 76) (v := nI 0) dX11_tellThree_76 (by decide) ?_
        refine a_gets (pc := 77) (i := 1) (by decide) dX11_tellThree_77 rfl w_413 ?_
        refine a_iconst (pc := 80) (v := nI 1) dX11_tellThree_80 (by decide) ?_
        refine a_sil (pc := 81) 1 (t := 1) (by decide) dX11_tellThree_81 rfl (by decide) ?_
        refine a_topi (nI 9) (by decide) ?_
        refine cs_X11_101 (pc := 82) rfl dX11_tellThree_82 (Nat.le_of_ble_eq_true rfl) ?_
        refine x_within (by omega) hz ?_
        refine a_topi (bI (inR 0 (nI 9) xg)) rfl ?_
        refine b_if_ne (pc := 85) (tgt := 90) dX11_tellThree_85 (by decide) (fun c_85 => ?_) (fun c_85 => ?_)
        · obtain ⟨n_xg, h_xg, rfl⟩ := inR_of (by decide) c_85
          have i_xg : iN (nI n_xg) = n_xg := iN_nI (by omega)
          refine a_aloadn_0 (pc := 90) dX11_tellThree_90 ?_
          refine gf_X11_12 (pc := 91) rfl dX11_tellThree_91 hC.c0 ?_
          refine a_iload_5 (pc := 94) dX11_tellThree_94 ?_
          refine a_iload_6 (pc := 96) dX11_tellThree_96 ?_
          refine cv_X11_269 (pc := 98) rfl dX11_tellThree_98 hC.c1.1 (Nat.le_of_ble_eq_true rfl) ?_
          refine z_setWax (by omega) hz hC (by omega) (by omega) (fun h1 hC1 => ?_)
          refine a_aloadn_0 (pc := 101) dX11_tellThree_101 ?_
          refine gf_X11_12 (pc := 102) rfl dX11_tellThree_102 hC1.c0 ?_
          refine gf_X11_351 (pc := 105) rfl dX11_tellThree_105 hC1.c1.1 ?_
          refine a_iload_5 (pc := 108) dX11_tellThree_108 ?_
          refine a_iload_7 (pc := 110) dX11_tellThree_110 ?_
          refine cs_dr (pc := 112) (j := n_xr) (x := n_xg) hC1 dX11_tellThree_112 (by omega) (by omega) (fun h9 hC9 => ?_)
          refine a_iconst (pc := 113) (v := nI 1) dX11_tellThree_113 (by decide) ?_
          exact a_zret (pc := 114) dX11_tellThree_114 rfl (by first | rfl | exact bI_nar _ | decide) (zf hz) (k1 n_xr n_xw n_xg (rowT_ok hle (by omega) (by omega) (by omega) (by_lN (BY _ (by omega)) exr (by omega)) (by_lN (BY _ (by omega)) exw (by omega)) (by_lN (BY _ (by omega)) exg (by omega))) _ _ hC9)
        · refine a_iconst (pc := 88) (v := nI 0) dX11_tellThree_88 (by decide) ?_
          exact a_zret (pc := 89) dX11_tellThree_89 rfl (by first | rfl | exact bI_nar _ | decide) (zf hz) (k0 (rowT_no (fun z => by_no (by decide) exg c_85 z.2.2.2)) hC)
  · have hle : ¬ i + 3 ≤ gMany b q := fun z => c_15 ((th_le m60 hi).mpr z)
    refine a_iconst (pc := 18) (v := nI 0) dX11_tellThree_18 (by decide) ?_
    exact a_zret (pc := 19) dX11_tellThree_19 rfl (by first | rfl | exact bI_nar _ | decide) (zf hz) (k0 (rowT_no (fun z => hle z.1)) hC)
