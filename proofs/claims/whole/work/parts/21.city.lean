theorem pnJ13 : plainName RJ13 = true := by decide
theorem nI_mod32 (n : Nat) : nI n = nI (n % 4294967296) := by
  show Int32.ofNat n = Int32.ofNat _
  apply Int32.toBitVec_inj.mp
  show BitVec.ofNat 32 n = BitVec.ofNat 32 (n % 4294967296)
  apply BitVec.eq_of_toNat_eq
  simp
theorem nI_and127 {n : Nat} : nI (n % 4294967296) &&& nI 127 = nI (n % 4294967296 % 128) := pk_andN (n := n % 4294967296) (by omega) 7 (by decide)
set_option maxRecDepth 100000 in
set_option maxHeartbeats 4000000 in
theorem x_bitCount {G : Cx} {d : Nat} {h : List va_E} {x : Int64} {Q : Option Value → List va_E → Prop} (hd : 1 ≤ d) (hz : gz G = false) (k : Q (some (.int (nI (ctn (tb x) 64)))) h) : AM G yJ13_bitCount_95d88 cJ13_bitCount_95d88 2 (some .int) d 0 0 [.long x] h Q := by
  obtain ⟨d, rfl, he⟩ := dpos hd
  obtain ⟨n, hn, rfl, htb⟩ := lN_of x
  obtain ⟨p_a, p_b, p_c, f0, f1, f2, f3, f4, f5, f6, f7, h1, h2, h3, h4, h5, h6, h7, g0, g1, g2, g3, g4, g5, g6, g7, ht0⟩ := pop_nat n hn
  have ht : f0 + f1 + f2 + f3 + f4 + f5 + f6 + f7 = ctn (tb (lN n)) 64 := ht0.trans (ctn_congr (fun i _ => (htb i).symm))
  obtain ⟨p_s, hs⟩ : ∃ p_s, p_s = p_c + p_c / 256 + (p_c + p_c / 256) / 65536 + (p_c + p_c / 256 + (p_c + p_c / 256) / 65536) / 4294967296 := ⟨_, rfl⟩
  have hlow : p_s % 128 = f0 + f1 + f2 + f3 + f4 + f5 + f6 + f7 := by rw [hs]; exact pop_low h7 ⟨g0, g1, g2, g3, g4, g5, g6, g7⟩
  have hcb : p_c < 1152921504606846976 := by clear h1 h2 h3 h4 h5 h6 hs hlow ht ht0; omega
  clear h7 g0 g1 g2 g3 g4 g5 g6 g7 ht0
  refine AM.of [some (.long (lN n)), none] pnJ13 (Nat.le_of_ble_eq_true rfl) (by simp [lsub, lvI, Value.category]) ?_
  refine a_lloadn_0 (pc := 0) dJ13_bitCount_95d88_0 ?_
  refine a_lloadn_0 (pc := 1) dJ13_bitCount_95d88_1 ?_
  refine a_iconst (pc := 2) (v := nI 1) dJ13_bitCount_95d88_2 (by decide) ?_
  refine a_lushr (pc := 3) dJ13_bitCount_95d88_3 ?_
  refine a_topl (lN (n / 2)) (lN_shr (k := 1) hn (by decide)) ?_
  refine a_ldc2 (pc := 4) dJ13_bitCount_95d88_4 w_551 ?_
  refine a_topl (lN 6148914691236517205) (by decide) ?_
  refine a_land (pc := 7) dJ13_bitCount_95d88_7 ?_
  refine a_topl (lN (n / 2 &&& 6148914691236517205)) lN_and ?_
  refine a_lsub (pc := 8) dJ13_bitCount_95d88_8 ?_
  refine a_topl (lN p_a) (by rw [lN_sub h1, ← h2]) ?_
  refine a_lstoren_0 (pc := 9) dJ13_bitCount_95d88_9 (by decide) ?_
  refine a_lloadn_0 (pc := 10) dJ13_bitCount_95d88_10 ?_
  refine a_ldc2 (pc := 11) dJ13_bitCount_95d88_11 w_552 ?_
  refine a_topl (lN 3689348814741910323) (by decide) ?_
  refine a_land (pc := 14) dJ13_bitCount_95d88_14 ?_
  refine a_topl (lN (p_a &&& 3689348814741910323)) lN_and ?_
  refine a_lloadn_0 (pc := 15) dJ13_bitCount_95d88_15 ?_
  refine a_iconst (pc := 16) (v := nI 2) dJ13_bitCount_95d88_16 (by decide) ?_
  refine a_lushr (pc := 17) dJ13_bitCount_95d88_17 ?_
  refine a_topl (lN (p_a / 4)) (lN_shr (k := 2) h3 (by decide)) ?_
  refine a_ldc2 (pc := 18) dJ13_bitCount_95d88_18 w_552 ?_
  refine a_topl (lN 3689348814741910323) (by decide) ?_
  refine a_land (pc := 21) dJ13_bitCount_95d88_21 ?_
  refine a_topl (lN (p_a / 4 &&& 3689348814741910323)) lN_and ?_
  refine a_ladd (pc := 22) dJ13_bitCount_95d88_22 ?_
  refine a_topl (lN p_b) (by rw [lN_add, ← h4]) ?_
  refine a_lstoren_0 (pc := 23) dJ13_bitCount_95d88_23 (by decide) ?_
  refine a_lloadn_0 (pc := 24) dJ13_bitCount_95d88_24 ?_
  refine a_lloadn_0 (pc := 25) dJ13_bitCount_95d88_25 ?_
  refine a_iconst (pc := 26) (v := nI 4) dJ13_bitCount_95d88_26 (by decide) ?_
  refine a_lushr (pc := 27) dJ13_bitCount_95d88_27 ?_
  refine a_topl (lN (p_b / 16)) (lN_shr (k := 4) (by omega) (by decide)) ?_
  refine a_ladd (pc := 28) dJ13_bitCount_95d88_28 ?_
  refine a_topl (lN (p_b + p_b / 16)) (lN_add _ _) ?_
  refine a_ldc2 (pc := 29) dJ13_bitCount_95d88_29 w_553 ?_
  refine a_topl (lN 1085102592571150095) (by decide) ?_
  refine a_land (pc := 32) dJ13_bitCount_95d88_32 ?_
  refine a_topl (lN p_c) (by rw [lN_and, ← h6]) ?_
  refine a_lstoren_0 (pc := 33) dJ13_bitCount_95d88_33 (by decide) ?_
  refine a_lloadn_0 (pc := 34) dJ13_bitCount_95d88_34 ?_
  refine a_lloadn_0 (pc := 35) dJ13_bitCount_95d88_35 ?_
  refine a_bipush (pc := 36) (v := nI 8) dJ13_bitCount_95d88_36 (by decide) ?_
  refine a_lushr (pc := 38) dJ13_bitCount_95d88_38 ?_
  refine a_topl (lN (p_c / 256)) (lN_shr (k := 8) (by omega) (by decide)) ?_
  refine a_ladd (pc := 39) dJ13_bitCount_95d88_39 ?_
  refine a_topl (lN (p_c + p_c / 256)) (lN_add _ _) ?_
  refine a_lstoren_0 (pc := 40) dJ13_bitCount_95d88_40 (by decide) ?_
  refine a_lloadn_0 (pc := 41) dJ13_bitCount_95d88_41 ?_
  refine a_lloadn_0 (pc := 42) dJ13_bitCount_95d88_42 ?_
  refine a_bipush (pc := 43) (v := nI 16) dJ13_bitCount_95d88_43 (by decide) ?_
  refine a_lushr (pc := 45) dJ13_bitCount_95d88_45 ?_
  refine a_topl (lN ((p_c + p_c / 256) / 65536)) (lN_shr (k := 16) (by omega) (by decide)) ?_
  refine a_ladd (pc := 46) dJ13_bitCount_95d88_46 ?_
  refine a_topl (lN (p_c + p_c / 256 + (p_c + p_c / 256) / 65536)) (lN_add _ _) ?_
  refine a_lstoren_0 (pc := 47) dJ13_bitCount_95d88_47 (by decide) ?_
  refine a_lloadn_0 (pc := 48) dJ13_bitCount_95d88_48 ?_
  refine a_lloadn_0 (pc := 49) dJ13_bitCount_95d88_49 ?_
  refine a_bipush (pc := 50) (v := nI 32) dJ13_bitCount_95d88_50 (by decide) ?_
  refine a_lushr (pc := 52) dJ13_bitCount_95d88_52 ?_
  refine a_topl (lN ((p_c + p_c / 256 + (p_c + p_c / 256) / 65536) / 4294967296)) (lN_shr (k := 32) (by omega) (by decide)) ?_
  refine a_ladd (pc := 53) dJ13_bitCount_95d88_53 ?_
  refine a_topl (lN p_s) (by rw [lN_add, ← hs]) ?_
  refine a_lstoren_0 (pc := 54) dJ13_bitCount_95d88_54 (by decide) ?_
  refine a_lloadn_0 (pc := 55) dJ13_bitCount_95d88_55 ?_
  refine a_l2i (pc := 56) dJ13_bitCount_95d88_56 ?_
  refine a_bipush (pc := 57) (v := nI 127) dJ13_bitCount_95d88_57 (by decide) ?_
  refine a_iand (pc := 59) dJ13_bitCount_95d88_59 ?_
  refine a_topi (nI (ctn (tb (lN n)) 64)) (by rw [lN_i, nI_mod32, nI_and127, Nat.mod_mod_of_dvd _ (by decide : 128 ∣ 4294967296), hlow, ht]) ?_
  exact a_iret (pc := 60) dJ13_bitCount_95d88_60 rfl (zf hz) k
