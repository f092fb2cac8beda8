/-! CONSTRUCTORS of the parts -/
set_option maxRecDepth 100000 in
set_option maxHeartbeats 4000000 in
theorem i_X0 {G : Cx} {d q : Nat} {P : List va_E} {Q : Option Value → List va_E → Prop} (hd : 1 ≤ d) (hz : gz G = true) (hP : P.length = q) (k : Q none (P ++ [.inr (0, [.ref (gB G + (q + 1)), .ref (gB G + (q + 2)), .long 0, .long 0, .long 0, .int (nI (3)), .int (nI (2)), .int 0, .long 0, .long 0, .int 0]), zI G 36, zI G 36])) : AM G yX0_init cX0_init 1 none d 2 72 [.ref (gB G + q)] (P ++ [raw0]) Q := by
  obtain ⟨d, rfl, he⟩ := dpos hd
  refine AM.of [some (.ref (gB G + q))] pnX0 (Nat.le_of_ble_eq_true rfl) (by simp [lsub, lvI, Value.category]) ?_
  refine a_aloadn_0 dX0_init_0 ?_
  refine a_objInitR dX0_init_1 w_30 (Nat.le_of_ble_eq_true rfl) ?_
  refine a_aloadn_0 dX0_init_4 ?_
  refine a_bipush (v := nI 36) dX0_init_5 (by decide) ?_
  refine n_newI (m := 1) (n := 36) (L' := [raw0, zI G 36]) hP rfl rfl hz dX0_init_7 rfl (by decide) ⟨Nat.le_of_ble_eq_true rfl, Nat.le_of_ble_eq_true rfl⟩ ?_
  refine pf_X0_9 ⟨rfl, rfl⟩ dX0_init_9 (pl_get hP (i := 0) rfl) ?_
  refine a_h (pl_set hP (i := 0) (L' := [.inr (0, [.ref (gB G + (q + 1)), .null, .long 0, .long 0, .long 0, .int 0, .int 0, .int 0, .long 0, .long 0, .int 0]), zI G 36]) rfl) ?_
  refine a_aloadn_0 dX0_init_12 ?_
  refine a_bipush (v := nI 36) dX0_init_13 (by decide) ?_
  refine n_newI (m := 2) (n := 36) (L' := [.inr (0, [.ref (gB G + (q + 1)), .null, .long 0, .long 0, .long 0, .int 0, .int 0, .int 0, .long 0, .long 0, .int 0]), zI G 36, zI G 36]) hP rfl rfl hz dX0_init_15 rfl (by decide) ⟨Nat.le_of_ble_eq_true rfl, Nat.le_of_ble_eq_true rfl⟩ ?_
  refine pf_X0_15 ⟨rfl, rfl⟩ dX0_init_17 (pl_get hP (i := 0) rfl) ?_
  refine a_h (pl_set hP (i := 0) (L' := [.inr (0, [.ref (gB G + (q + 1)), .ref (gB G + (q + 2)), .long 0, .long 0, .long 0, .int 0, .int 0, .int 0, .long 0, .long 0, .int 0]), zI G 36, zI G 36]) rfl) ?_
  refine a_aloadn_0 dX0_init_20 ?_
  refine a_iconst (v := nI 3) dX0_init_21 (by decide) ?_
  refine pf_X0_18 rfl dX0_init_22 (pl_get hP (i := 0) rfl) ?_
  refine a_h (pl_set hP (i := 0) (L' := [.inr (0, [.ref (gB G + (q + 1)), .ref (gB G + (q + 2)), .long 0, .long 0, .long 0, .int (nI (3)), .int 0, .int 0, .long 0, .long 0, .int 0]), zI G 36, zI G 36]) rfl) ?_
  refine a_aloadn_0 dX0_init_25 ?_
  refine a_iconst (v := nI 2) dX0_init_26 (by decide) ?_
  refine pf_X0_22 rfl dX0_init_27 (pl_get hP (i := 0) rfl) ?_
  refine a_h (pl_set hP (i := 0) (L' := [.inr (0, [.ref (gB G + (q + 1)), .ref (gB G + (q + 2)), .long 0, .long 0, .long 0, .int (nI (3)), .int (nI (2)), .int 0, .long 0, .long 0, .int 0]), zI G 36, zI G 36]) rfl) ?_
  exact a_vret dX0_init_30 rfl (fun _ => by rw [List.length_append, List.length_append]; rfl) k
set_option maxRecDepth 100000 in
set_option maxHeartbeats 4000000 in
theorem i_X4 {G : Cx} {d q : Nat} {P : List va_E} {Q : Option Value → List va_E → Prop} (hd : 1 ≤ d) (hz : gz G = true) (hP : P.length = q) (k : Q none (P ++ [.inr (4, [.ref (gB G + (q + 1)), .ref (gB G + (q + 2)), .ref (gB G + (q + 3)), .ref (gB G + (q + 4)), .ref (gB G + (q + 5)), .ref (gB G + (q + 6)), .int 0, .int 0]), zI G 126, zI G 126, zI G 126, zI G 126, zI G 61, zI G 61])) : AM G yX4_init cX4_init 1 none d 6 626 [.ref (gB G + q)] (P ++ [raw4]) Q := by
  obtain ⟨d, rfl, he⟩ := dpos hd
  refine AM.of [some (.ref (gB G + q))] pnX4 (Nat.le_of_ble_eq_true rfl) (by simp [lsub, lvI, Value.category]) ?_
  refine a_aloadn_0 dX4_init_0 ?_
  refine a_objInitR dX4_init_1 w_87 (Nat.le_of_ble_eq_true rfl) ?_
  refine a_aloadn_0 dX4_init_4 ?_
  refine a_bipush (v := nI 126) dX4_init_5 (by decide) ?_
  refine n_newI (m := 1) (n := 126) (L' := [raw4, zI G 126]) hP rfl rfl hz dX4_init_7 rfl (by decide) ⟨Nat.le_of_ble_eq_true rfl, Nat.le_of_ble_eq_true rfl⟩ ?_
  refine pf_X4_11 ⟨rfl, rfl⟩ dX4_init_9 (pl_get hP (i := 0) rfl) ?_
  refine a_h (pl_set hP (i := 0) (L' := [.inr (4, [.ref (gB G + (q + 1)), .null, .null, .null, .null, .null, .int 0, .int 0]), zI G 126]) rfl) ?_
  refine a_aloadn_0 dX4_init_12 ?_
  refine a_bipush (v := nI 126) dX4_init_13 (by decide) ?_
  refine n_newI (m := 2) (n := 126) (L' := [.inr (4, [.ref (gB G + (q + 1)), .null, .null, .null, .null, .null, .int 0, .int 0]), zI G 126, zI G 126]) hP rfl rfl hz dX4_init_15 rfl (by decide) ⟨Nat.le_of_ble_eq_true rfl, Nat.le_of_ble_eq_true rfl⟩ ?_
  refine pf_X4_15 ⟨rfl, rfl⟩ dX4_init_17 (pl_get hP (i := 0) rfl) ?_
  refine a_h (pl_set hP (i := 0) (L' := [.inr (4, [.ref (gB G + (q + 1)), .ref (gB G + (q + 2)), .null, .null, .null, .null, .int 0, .int 0]), zI G 126, zI G 126]) rfl) ?_
  refine a_aloadn_0 dX4_init_20 ?_
  refine a_bipush (v := nI 126) dX4_init_21 (by decide) ?_
  refine n_newI (m := 3) (n := 126) (L' := [.inr (4, [.ref (gB G + (q + 1)), .ref (gB G + (q + 2)), .null, .null, .null, .null, .int 0, .int 0]), zI G 126, zI G 126, zI G 126]) hP rfl rfl hz dX4_init_23 rfl (by decide) ⟨Nat.le_of_ble_eq_true rfl, Nat.le_of_ble_eq_true rfl⟩ ?_
  refine pf_X4_18 ⟨rfl, rfl⟩ dX4_init_25 (pl_get hP (i := 0) rfl) ?_
  refine a_h (pl_set hP (i := 0) (L' := [.inr (4, [.ref (gB G + (q + 1)), .ref (gB G + (q + 2)), .ref (gB G + (q + 3)), .null, .null, .null, .int 0, .int 0]), zI G 126, zI G 126, zI G 126]) rfl) ?_
  refine a_aloadn_0 dX4_init_28 ?_
  refine a_bipush (v := nI 126) dX4_init_29 (by decide) ?_
  refine n_newI (m := 4) (n := 126) (L' := [.inr (4, [.ref (gB G + (q + 1)), .ref (gB G + (q + 2)), .ref (gB G + (q + 3)), .null, .null, .null, .int 0, .int 0]), zI G 126, zI G 126, zI G 126, zI G 126]) hP rfl rfl hz dX4_init_31 rfl (by decide) ⟨Nat.le_of_ble_eq_true rfl, Nat.le_of_ble_eq_true rfl⟩ ?_
  refine pf_X4_21 ⟨rfl, rfl⟩ dX4_init_33 (pl_get hP (i := 0) rfl) ?_
  refine a_h (pl_set hP (i := 0) (L' := [.inr (4, [.ref (gB G + (q + 1)), .ref (gB G + (q + 2)), .ref (gB G + (q + 3)), .ref (gB G + (q + 4)), .null, .null, .int 0, .int 0]), zI G 126, zI G 126, zI G 126, zI G 126]) rfl) ?_
  refine a_aloadn_0 dX4_init_36 ?_
  refine a_bipush (v := nI 61) dX4_init_37 (by decide) ?_
  refine n_newI (m := 5) (n := 61) (L' := [.inr (4, [.ref (gB G + (q + 1)), .ref (gB G + (q + 2)), .ref (gB G + (q + 3)), .ref (gB G + (q + 4)), .null, .null, .int 0, .int 0]), zI G 126, zI G 126, zI G 126, zI G 126, zI G 61]) hP rfl rfl hz dX4_init_39 rfl (by decide) ⟨Nat.le_of_ble_eq_true rfl, Nat.le_of_ble_eq_true rfl⟩ ?_
  refine pf_X4_24 ⟨rfl, rfl⟩ dX4_init_41 (pl_get hP (i := 0) rfl) ?_
  refine a_h (pl_set hP (i := 0) (L' := [.inr (4, [.ref (gB G + (q + 1)), .ref (gB G + (q + 2)), .ref (gB G + (q + 3)), .ref (gB G + (q + 4)), .ref (gB G + (q + 5)), .null, .int 0, .int 0]), zI G 126, zI G 126, zI G 126, zI G 126, zI G 61]) rfl) ?_
  refine a_aloadn_0 dX4_init_44 ?_
  refine a_bipush (v := nI 61) dX4_init_45 (by decide) ?_
  refine n_newI (m := 6) (n := 61) (L' := [.inr (4, [.ref (gB G + (q + 1)), .ref (gB G + (q + 2)), .ref (gB G + (q + 3)), .ref (gB G + (q + 4)), .ref (gB G + (q + 5)), .null, .int 0, .int 0]), zI G 126, zI G 126, zI G 126, zI G 126, zI G 61, zI G 61]) hP rfl rfl hz dX4_init_47 rfl (by decide) ⟨Nat.le_of_ble_eq_true rfl, Nat.le_of_ble_eq_true rfl⟩ ?_
  refine pf_X4_27 ⟨rfl, rfl⟩ dX4_init_49 (pl_get hP (i := 0) rfl) ?_
  refine a_h (pl_set hP (i := 0) (L' := [.inr (4, [.ref (gB G + (q + 1)), .ref (gB G + (q + 2)), .ref (gB G + (q + 3)), .ref (gB G + (q + 4)), .ref (gB G + (q + 5)), .ref (gB G + (q + 6)), .int 0, .int 0]), zI G 126, zI G 126, zI G 126, zI G 126, zI G 61, zI G 61]) rfl) ?_
  exact a_vret dX4_init_52 rfl (fun _ => by rw [List.length_append, List.length_append]; rfl) k
set_option maxRecDepth 100000 in
set_option maxHeartbeats 4000000 in
theorem i_X1 {G : Cx} {d q : Nat} {P : List va_E} {x1 : Nat} {Q : Option Value → List va_E → Prop} (hd : 1 ≤ d) (hz : gz G = true) (hP : P.length = q) (k : Q none (P ++ [.inr (1, [.ref (x1), .ref (gB G + (q + 1)), .ref (gB G + (q + 2)), .ref (gB G + (q + 3)), .ref (gB G + (q + 4)), .int 0, .int 0]), zI G 40, zI G 40, zI G 40, zI G 40])) : AM G yX1_init cX1_init 2 none d 4 160 [.ref (gB G + q), .ref (x1)] (P ++ [raw1]) Q := by
  obtain ⟨d, rfl, he⟩ := dpos hd
  refine AM.of [some (.ref (gB G + q)), some (.ref (x1))] pnX1 (Nat.le_of_ble_eq_true rfl) (by simp [lsub, lvI, Value.category]) ?_
  refine a_aloadn_0 dX1_init_0 ?_
  refine a_objInitR dX1_init_1 w_261 (Nat.le_of_ble_eq_true rfl) ?_
  refine a_aloadn_0 dX1_init_4 ?_
  refine a_bipush (v := nI 40) dX1_init_5 (by decide) ?_
  refine n_newI (m := 1) (n := 40) (L' := [raw1, zI G 40]) hP rfl rfl hz dX1_init_7 rfl (by decide) ⟨Nat.le_of_ble_eq_true rfl, Nat.le_of_ble_eq_true rfl⟩ ?_
  refine pf_X1_11 ⟨rfl, rfl⟩ dX1_init_9 (pl_get hP (i := 0) rfl) ?_
  refine a_h (pl_set hP (i := 0) (L' := [.inr (1, [.null, .ref (gB G + (q + 1)), .null, .null, .null, .int 0, .int 0]), zI G 40]) rfl) ?_
  refine a_aloadn_0 dX1_init_12 ?_
  refine a_bipush (v := nI 40) dX1_init_13 (by decide) ?_
  refine n_newI (m := 2) (n := 40) (L' := [.inr (1, [.null, .ref (gB G + (q + 1)), .null, .null, .null, .int 0, .int 0]), zI G 40, zI G 40]) hP rfl rfl hz dX1_init_15 rfl (by decide) ⟨Nat.le_of_ble_eq_true rfl, Nat.le_of_ble_eq_true rfl⟩ ?_
  refine pf_X1_15 ⟨rfl, rfl⟩ dX1_init_17 (pl_get hP (i := 0) rfl) ?_
  refine a_h (pl_set hP (i := 0) (L' := [.inr (1, [.null, .ref (gB G + (q + 1)), .ref (gB G + (q + 2)), .null, .null, .int 0, .int 0]), zI G 40, zI G 40]) rfl) ?_
  refine a_aloadn_0 dX1_init_20 ?_
  refine a_bipush (v := nI 40) dX1_init_21 (by decide) ?_
  refine n_newI (m := 3) (n := 40) (L' := [.inr (1, [.null, .ref (gB G + (q + 1)), .ref (gB G + (q + 2)), .null, .null, .int 0, .int 0]), zI G 40, zI G 40, zI G 40]) hP rfl rfl hz dX1_init_23 rfl (by decide) ⟨Nat.le_of_ble_eq_true rfl, Nat.le_of_ble_eq_true rfl⟩ ?_
  refine pf_X1_18 ⟨rfl, rfl⟩ dX1_init_25 (pl_get hP (i := 0) rfl) ?_
  refine a_h (pl_set hP (i := 0) (L' := [.inr (1, [.null, .ref (gB G + (q + 1)), .ref (gB G + (q + 2)), .ref (gB G + (q + 3)), .null, .int 0, .int 0]), zI G 40, zI G 40, zI G 40]) rfl) ?_
  refine a_aloadn_0 dX1_init_28 ?_
  refine a_bipush (v := nI 40) dX1_init_29 (by decide) ?_
  refine n_newI (m := 4) (n := 40) (L' := [.inr (1, [.null, .ref (gB G + (q + 1)), .ref (gB G + (q + 2)), .ref (gB G + (q + 3)), .null, .int 0, .int 0]), zI G 40, zI G 40, zI G 40, zI G 40]) hP rfl rfl hz dX1_init_31 rfl (by decide) ⟨Nat.le_of_ble_eq_true rfl, Nat.le_of_ble_eq_true rfl⟩ ?_
  refine pf_X1_21 ⟨rfl, rfl⟩ dX1_init_33 (pl_get hP (i := 0) rfl) ?_
  refine a_h (pl_set hP (i := 0) (L' := [.inr (1, [.null, .ref (gB G + (q + 1)), .ref (gB G + (q + 2)), .ref (gB G + (q + 3)), .ref (gB G + (q + 4)), .int 0, .int 0]), zI G 40, zI G 40, zI G 40, zI G 40]) rfl) ?_
  refine a_aloadn_0 dX1_init_36 ?_
  refine a_aloadn_1 dX1_init_37 ?_
  refine pf_X1_24 ⟨rfl, rfl⟩ dX1_init_38 (pl_get hP (i := 0) rfl) ?_
  refine a_h (pl_set hP (i := 0) (L' := [.inr (1, [.ref (x1), .ref (gB G + (q + 1)), .ref (gB G + (q + 2)), .ref (gB G + (q + 3)), .ref (gB G + (q + 4)), .int 0, .int 0]), zI G 40, zI G 40, zI G 40, zI G 40]) rfl) ?_
  exact a_vret dX1_init_41 rfl (fun _ => by rw [List.length_append, List.length_append]; rfl) k
set_option maxRecDepth 100000 in
set_option maxHeartbeats 4000000 in
theorem i_X2 {G : Cx} {d q : Nat} {P : List va_E} {Q : Option Value → List va_E → Prop} (hd : 2 ≤ d) (hz : gz G = true) (hP : P.length = q) (k : Q none (P ++ [.inr (2, [.ref (gB G + (q + 1)), .ref (gB G + (q + 8)), .int 0]), .inr (4, [.ref (gB G + (q + 2)), .ref (gB G + (q + 3)), .ref (gB G + (q + 4)), .ref (gB G + (q + 5)), .ref (gB G + (q + 6)), .ref (gB G + (q + 7)), .int 0, .int 0]), zI G 126, zI G 126, zI G 126, zI G 126, zI G 61, zI G 61, zI G 6000])) : AM G yX2_init cX2_init 1 none d 8 6634 [.ref (gB G + q)] (P ++ [raw2]) Q := by
  obtain ⟨d, rfl, he⟩ := dpos hd
  refine AM.of [some (.ref (gB G + q))] pnX2 (Nat.le_of_ble_eq_true rfl) (by simp [lsub, lvI, Value.category]) ?_
  refine a_aloadn_0 dX2_init_0 ?_
  refine a_objInitR dX2_init_1 w_81 (Nat.le_of_ble_eq_true rfl) ?_
  refine a_aloadn_0 dX2_init_4 ?_
  refine n_new4 (m := 1) (L' := [raw2, raw4]) hP rfl rfl hz dX2_init_5 w_82 ⟨Nat.le_of_ble_eq_true rfl, Nat.le_of_ble_eq_true rfl⟩ ?_
  refine a_dup dX2_init_8 rfl ?_
  refine ci_X2_9 (mc' := 6) (ms' := 626) (Q' := fun v h' => v = none ∧ h' = P ++ [raw2, .inr (4, [.ref (gB G + (q + 2)), .ref (gB G + (q + 3)), .ref (gB G + (q + 4)), .ref (gB G + (q + 5)), .ref (gB G + (q + 6)), .ref (gB G + (q + 7)), .int 0, .int 0]), zI G 126, zI G 126, zI G 126, zI G 126, zI G 61, zI G 61]) rfl dX2_init_9 (Nat.le_of_ble_eq_true rfl) ⟨Nat.le_of_ble_eq_true rfl, Nat.le_of_ble_eq_true rfl⟩ (AM_h (List.append_assoc P [raw2] [raw4]).symm (i_X4 (by omega) hz (q := q + 1) (P := P ++ [raw2]) (by rw [List.length_append, hP]; rfl) ⟨rfl, List.append_assoc P [raw2] _⟩)) (fun v h' e9 _ => ?_)
  obtain ⟨rfl, rfl⟩ := e9
  refine pf_X2_10 rfl dX2_init_12 (pl_get hP (i := 0) rfl) ?_
  refine a_h (pl_set hP (i := 0) (L' := [.inr (2, [.ref (gB G + (q + 1)), .null, .int 0]), .inr (4, [.ref (gB G + (q + 2)), .ref (gB G + (q + 3)), .ref (gB G + (q + 4)), .ref (gB G + (q + 5)), .ref (gB G + (q + 6)), .ref (gB G + (q + 7)), .int 0, .int 0]), zI G 126, zI G 126, zI G 126, zI G 126, zI G 61, zI G 61]) rfl) ?_
  refine a_aloadn_0 dX2_init_15 ?_
  refine a_sipush (v := nI 6000) dX2_init_16 (by decide) ?_
  refine n_newI (m := 8) (n := 6000) (L' := [.inr (2, [.ref (gB G + (q + 1)), .null, .int 0]), .inr (4, [.ref (gB G + (q + 2)), .ref (gB G + (q + 3)), .ref (gB G + (q + 4)), .ref (gB G + (q + 5)), .ref (gB G + (q + 6)), .ref (gB G + (q + 7)), .int 0, .int 0]), zI G 126, zI G 126, zI G 126, zI G 126, zI G 61, zI G 61, zI G 6000]) hP rfl rfl hz dX2_init_19 rfl (by decide) ⟨Nat.le_of_ble_eq_true rfl, Nat.le_of_ble_eq_true rfl⟩ ?_
  refine pf_X2_16 ⟨rfl, rfl⟩ dX2_init_21 (pl_get hP (i := 0) rfl) ?_
  refine a_h (pl_set hP (i := 0) (L' := [.inr (2, [.ref (gB G + (q + 1)), .ref (gB G + (q + 8)), .int 0]), .inr (4, [.ref (gB G + (q + 2)), .ref (gB G + (q + 3)), .ref (gB G + (q + 4)), .ref (gB G + (q + 5)), .ref (gB G + (q + 6)), .ref (gB G + (q + 7)), .int 0, .int 0]), zI G 126, zI G 126, zI G 126, zI G 126, zI G 61, zI G 61, zI G 6000]) rfl) ?_
  exact a_vret dX2_init_24 rfl (fun _ => by rw [List.length_append, List.length_append]; rfl) k
set_option maxRecDepth 100000 in
set_option maxHeartbeats 4000000 in
theorem i_X3 {G : Cx} {d q : Nat} {P : List va_E} {Q : Option Value → List va_E → Prop} (hd : 2 ≤ d) (hz : gz G = true) (hP : P.length = q) (k : Q none (P ++ [.inr (3, [.ref (gB G + (q + 1)), .int 0, .int 0, .int 0, .ref (gB G + (q + 2))]), zI G 120, .inr (4, [.ref (gB G + (q + 3)), .ref (gB G + (q + 4)), .ref (gB G + (q + 5)), .ref (gB G + (q + 6)), .ref (gB G + (q + 7)), .ref (gB G + (q + 8)), .int 0, .int 0]), zI G 126, zI G 126, zI G 126, zI G 126, zI G 61, zI G 61])) : AM G yX3_init cX3_init 1 none d 8 754 [.ref (gB G + q)] (P ++ [raw3]) Q := by
  obtain ⟨d, rfl, he⟩ := dpos hd
  refine AM.of [some (.ref (gB G + q))] pnX3 (Nat.le_of_ble_eq_true rfl) (by simp [lsub, lvI, Value.category]) ?_
  refine a_aloadn_0 dX3_init_0 ?_
  refine a_objInitR dX3_init_1 w_128 (Nat.le_of_ble_eq_true rfl) ?_
  refine a_aloadn_0 dX3_init_4 ?_
  refine a_bipush (v := nI 120) dX3_init_5 (by decide) ?_
  refine n_newI (m := 1) (n := 120) (L' := [raw3, zI G 120]) hP rfl rfl hz dX3_init_7 rfl (by decide) ⟨Nat.le_of_ble_eq_true rfl, Nat.le_of_ble_eq_true rfl⟩ ?_
  refine pf_X3_9 ⟨rfl, rfl⟩ dX3_init_9 (pl_get hP (i := 0) rfl) ?_
  refine a_h (pl_set hP (i := 0) (L' := [.inr (3, [.ref (gB G + (q + 1)), .int 0, .int 0, .int 0, .null]), zI G 120]) rfl) ?_
  refine a_aloadn_0 dX3_init_12 ?_
  refine n_new4 (m := 2) (L' := [.inr (3, [.ref (gB G + (q + 1)), .int 0, .int 0, .int 0, .null]), zI G 120, raw4]) hP rfl rfl hz dX3_init_13 w_129 ⟨Nat.le_of_ble_eq_true rfl, Nat.le_of_ble_eq_true rfl⟩ ?_
  refine a_dup dX3_init_16 rfl ?_
  refine ci_X3_17 (mc' := 6) (ms' := 626) (Q' := fun v h' => v = none ∧ h' = P ++ [.inr (3, [.ref (gB G + (q + 1)), .int 0, .int 0, .int 0, .null]), zI G 120, .inr (4, [.ref (gB G + (q + 3)), .ref (gB G + (q + 4)), .ref (gB G + (q + 5)), .ref (gB G + (q + 6)), .ref (gB G + (q + 7)), .ref (gB G + (q + 8)), .int 0, .int 0]), zI G 126, zI G 126, zI G 126, zI G 126, zI G 61, zI G 61]) rfl dX3_init_17 (Nat.le_of_ble_eq_true rfl) ⟨Nat.le_of_ble_eq_true rfl, Nat.le_of_ble_eq_true rfl⟩ (AM_h (List.append_assoc P [.inr (3, [.ref (gB G + (q + 1)), .int 0, .int 0, .int 0, .null]), zI G 120] [raw4]).symm (i_X4 (by omega) hz (q := q + 2) (P := P ++ [.inr (3, [.ref (gB G + (q + 1)), .int 0, .int 0, .int 0, .null]), zI G 120]) (by rw [List.length_append, hP]; rfl) ⟨rfl, List.append_assoc P [.inr (3, [.ref (gB G + (q + 1)), .int 0, .int 0, .int 0, .null]), zI G 120] _⟩)) (fun v h' e9 _ => ?_)
  obtain ⟨rfl, rfl⟩ := e9
  refine pf_X3_18 rfl dX3_init_20 (pl_get hP (i := 0) rfl) ?_
  refine a_h (pl_set hP (i := 0) (L' := [.inr (3, [.ref (gB G + (q + 1)), .int 0, .int 0, .int 0, .ref (gB G + (q + 2))]), zI G 120, .inr (4, [.ref (gB G + (q + 3)), .ref (gB G + (q + 4)), .ref (gB G + (q + 5)), .ref (gB G + (q + 6)), .ref (gB G + (q + 7)), .ref (gB G + (q + 8)), .int 0, .int 0]), zI G 126, zI G 126, zI G 126, zI G 126, zI G 61, zI G 61]) rfl) ?_
  exact a_vret dX3_init_23 rfl (fun _ => by rw [List.length_append, List.length_append]; rfl) k
set_option maxRecDepth 100000 in
set_option maxHeartbeats 4000000 in
theorem i_X5 {G : Cx} {d q : Nat} {P : List va_E} {Q : Option Value → List va_E → Prop} (hd : 1 ≤ d) (hz : gz G = true) (hP : P.length = q) (k : Q none (P ++ [.inr (5, [.ref (gB G + (q + 1)), .ref (gB G + (q + 2)), .int 0, .int 0, .int 0, .int 0]), zI G 50, zI G 24])) : AM G yX5_init cX5_init 1 none d 2 74 [.ref (gB G + q)] (P ++ [raw5]) Q := by
  obtain ⟨d, rfl, he⟩ := dpos hd
  refine AM.of [some (.ref (gB G + q))] pnX5 (Nat.le_of_ble_eq_true rfl) (by simp [lsub, lvI, Value.category]) ?_
  refine a_aloadn_0 dX5_init_0 ?_
  refine a_objInitR dX5_init_1 w_290 (Nat.le_of_ble_eq_true rfl) ?_
  refine a_aloadn_0 dX5_init_4 ?_
  refine a_bipush (v := nI 50) dX5_init_5 (by decide) ?_
  refine n_newI (m := 1) (n := 50) (L' := [raw5, zI G 50]) hP rfl rfl hz dX5_init_7 rfl (by decide) ⟨Nat.le_of_ble_eq_true rfl, Nat.le_of_ble_eq_true rfl⟩ ?_
  refine pf_X5_9 ⟨rfl, rfl⟩ dX5_init_9 (pl_get hP (i := 0) rfl) ?_
  refine a_h (pl_set hP (i := 0) (L' := [.inr (5, [.ref (gB G + (q + 1)), .null, .int 0, .int 0, .int 0, .int 0]), zI G 50]) rfl) ?_
  refine a_aloadn_0 dX5_init_12 ?_
  refine a_bipush (v := nI 24) dX5_init_13 (by decide) ?_
  refine n_newI (m := 2) (n := 24) (L' := [.inr (5, [.ref (gB G + (q + 1)), .null, .int 0, .int 0, .int 0, .int 0]), zI G 50, zI G 24]) hP rfl rfl hz dX5_init_15 rfl (by decide) ⟨Nat.le_of_ble_eq_true rfl, Nat.le_of_ble_eq_true rfl⟩ ?_
  refine pf_X5_15 ⟨rfl, rfl⟩ dX5_init_17 (pl_get hP (i := 0) rfl) ?_
  refine a_h (pl_set hP (i := 0) (L' := [.inr (5, [.ref (gB G + (q + 1)), .ref (gB G + (q + 2)), .int 0, .int 0, .int 0, .int 0]), zI G 50, zI G 24]) rfl) ?_
  exact a_vret dX5_init_20 rfl (fun _ => by rw [List.length_append, List.length_append]; rfl) k
set_option maxRecDepth 100000 in
set_option maxHeartbeats 4000000 in
theorem i_X6 {G : Cx} {d q : Nat} {P : List va_E} {Q : Option Value → List va_E → Prop} (hd : 1 ≤ d) (hz : gz G = true) (hP : P.length = q) (k : Q none (P ++ [.inr (6, [.ref (gB G + (q + 1)), .int (-1), .int 0, .int 0, .int 0]), zL G 60])) : AM G yX6_init cX6_init 1 none d 1 60 [.ref (gB G + q)] (P ++ [raw6]) Q := by
  obtain ⟨d, rfl, he⟩ := dpos hd
  refine AM.of [some (.ref (gB G + q))] pnX6 (Nat.le_of_ble_eq_true rfl) (by simp [lsub, lvI, Value.category]) ?_
  refine a_aloadn_0 dX6_init_0 ?_
  refine a_objInitR dX6_init_1 w_318 (Nat.le_of_ble_eq_true rfl) ?_
  refine a_aloadn_0 dX6_init_4 ?_
  refine a_bipush (v := nI 60) dX6_init_5 (by decide) ?_
  refine n_newL (m := 1) (n := 60) (L' := [raw6, zL G 60]) hP rfl rfl hz dX6_init_7 rfl (by decide) ⟨Nat.le_of_ble_eq_true rfl, Nat.le_of_ble_eq_true rfl⟩ ?_
  refine pf_X6_9 ⟨rfl, rfl⟩ dX6_init_9 (pl_get hP (i := 0) rfl) ?_
  refine a_h (pl_set hP (i := 0) (L' := [.inr (6, [.ref (gB G + (q + 1)), .int 0, .int 0, .int 0, .int 0]), zL G 60]) rfl) ?_
  refine a_aloadn_0 dX6_init_12 ?_
  refine a_iconst (v := (-1)) dX6_init_13 (by decide) ?_
  refine pf_X6_13 rfl dX6_init_14 (pl_get hP (i := 0) rfl) ?_
  refine a_h (pl_set hP (i := 0) (L' := [.inr (6, [.ref (gB G + (q + 1)), .int (-1), .int 0, .int 0, .int 0]), zL G 60]) rfl) ?_
  exact a_vret dX6_init_17 rfl (fun _ => by rw [List.length_append, List.length_append]; rfl) k
set_option maxRecDepth 100000 in
set_option maxHeartbeats 4000000 in
theorem i_X7 {G : Cx} {d q : Nat} {P : List va_E} {x1 x2 : Nat} {Q : Option Value → List va_E → Prop} (hd : 2 ≤ d) (hz : gz G = true) (hP : P.length = q) (k : Q none (P ++ [.inr (7, [.ref (x1), .ref (x2), .ref (gB G + (q + 1)), .int 0, .int 0, .int 0]), .inr (0, [.ref (gB G + (q + 2)), .ref (gB G + (q + 3)), .long 0, .long 0, .long 0, .int (nI (3)), .int (nI (2)), .int 0, .long 0, .long 0, .int 0]), zI G 36, zI G 36])) : AM G yX7_init cX7_init 3 none d 3 83 [.ref (gB G + q), .ref (x1), .ref (x2)] (P ++ [raw7]) Q := by
  obtain ⟨d, rfl, he⟩ := dpos hd
  refine AM.of [some (.ref (gB G + q)), some (.ref (x1)), some (.ref (x2))] pnX7 (Nat.le_of_ble_eq_true rfl) (by simp [lsub, lvI, Value.category]) ?_
  refine a_aloadn_0 dX7_init_0 ?_
  refine a_objInitR dX7_init_1 w_154 (Nat.le_of_ble_eq_true rfl) ?_
  refine a_aloadn_0 dX7_init_4 ?_
  refine n_new0 (m := 1) (L' := [raw7, raw0]) hP rfl rfl hz dX7_init_5 w_155 ⟨Nat.le_of_ble_eq_true rfl, Nat.le_of_ble_eq_true rfl⟩ ?_
  refine a_dup dX7_init_8 rfl ?_
  refine ci_X7_11 (mc' := 2) (ms' := 72) (Q' := fun v h' => v = none ∧ h' = P ++ [raw7, .inr (0, [.ref (gB G + (q + 2)), .ref (gB G + (q + 3)), .long 0, .long 0, .long 0, .int (nI (3)), .int (nI (2)), .int 0, .long 0, .long 0, .int 0]), zI G 36, zI G 36]) rfl dX7_init_9 (Nat.le_of_ble_eq_true rfl) ⟨Nat.le_of_ble_eq_true rfl, Nat.le_of_ble_eq_true rfl⟩ (AM_h (List.append_assoc P [raw7] [raw0]).symm (i_X0 (by omega) hz (q := q + 1) (P := P ++ [raw7]) (by rw [List.length_append, hP]; rfl) ⟨rfl, List.append_assoc P [raw7] _⟩)) (fun v h' e9 _ => ?_)
  obtain ⟨rfl, rfl⟩ := e9
  refine pf_X7_12 ⟨rfl, rfl⟩ dX7_init_12 (pl_get hP (i := 0) rfl) ?_
  refine a_h (pl_set hP (i := 0) (L' := [.inr (7, [.null, .null, .ref (gB G + (q + 1)), .int 0, .int 0, .int 0]), .inr (0, [.ref (gB G + (q + 2)), .ref (gB G + (q + 3)), .long 0, .long 0, .long 0, .int (nI (3)), .int (nI (2)), .int 0, .long 0, .long 0, .int 0]), zI G 36, zI G 36]) rfl) ?_
  refine a_aloadn_0 dX7_init_15 ?_
  refine a_aloadn_1 dX7_init_16 ?_
  refine pf_X7_18 ⟨rfl, rfl⟩ dX7_init_17 (pl_get hP (i := 0) rfl) ?_
  refine a_h (pl_set hP (i := 0) (L' := [.inr (7, [.ref (x1), .null, .ref (gB G + (q + 1)), .int 0, .int 0, .int 0]), .inr (0, [.ref (gB G + (q + 2)), .ref (gB G + (q + 3)), .long 0, .long 0, .long 0, .int (nI (3)), .int (nI (2)), .int 0, .long 0, .long 0, .int 0]), zI G 36, zI G 36]) rfl) ?_
  refine a_aloadn_0 dX7_init_20 ?_
  refine a_aloadn_2 dX7_init_21 ?_
  refine pf_X7_21 ⟨rfl, rfl⟩ dX7_init_22 (pl_get hP (i := 0) rfl) ?_
  refine a_h (pl_set hP (i := 0) (L' := [.inr (7, [.ref (x1), .ref (x2), .ref (gB G + (q + 1)), .int 0, .int 0, .int 0]), .inr (0, [.ref (gB G + (q + 2)), .ref (gB G + (q + 3)), .long 0, .long 0, .long 0, .int (nI (3)), .int (nI (2)), .int 0, .long 0, .long 0, .int 0]), zI G 36, zI G 36]) rfl) ?_
  exact a_vret dX7_init_25 rfl (fun _ => by rw [List.length_append, List.length_append]; rfl) k
set_option maxRecDepth 100000 in
set_option maxHeartbeats 4000000 in
theorem i_X8 {G : Cx} {d q : Nat} {P : List va_E} {x1 x2 : Nat} {Q : Option Value → List va_E → Prop} (hd : 2 ≤ d) (hz : gz G = true) (hP : P.length = q) (k : Q none (P ++ [.inr (8, [.ref (x1), .ref (x2), .ref (gB G + (q + 1)), .ref (gB G + (q + 4)), .int 0, .int 0, .int 0, .int 0]), .inr (0, [.ref (gB G + (q + 2)), .ref (gB G + (q + 3)), .long 0, .long 0, .long 0, .int (nI (3)), .int (nI (2)), .int 0, .long 0, .long 0, .int 0]), zI G 36, zI G 36, .inr (0, [.ref (gB G + (q + 5)), .ref (gB G + (q + 6)), .long 0, .long 0, .long 0, .int (nI (3)), .int (nI (2)), .int 0, .long 0, .long 0, .int 0]), zI G 36, zI G 36])) : AM G yX8_init cX8_init 3 none d 6 166 [.ref (gB G + q), .ref (x1), .ref (x2)] (P ++ [raw8]) Q := by
  obtain ⟨d, rfl, he⟩ := dpos hd
  refine AM.of [some (.ref (gB G + q)), some (.ref (x1)), some (.ref (x2))] pnX8 (Nat.le_of_ble_eq_true rfl) (by simp [lsub, lvI, Value.category]) ?_
  refine a_aloadn_0 dX8_init_0 ?_
  refine a_objInitR dX8_init_1 w_213 (Nat.le_of_ble_eq_true rfl) ?_
  refine a_aloadn_0 dX8_init_4 ?_
  refine n_new0 (m := 1) (L' := [raw8, raw0]) hP rfl rfl hz dX8_init_5 w_214 ⟨Nat.le_of_ble_eq_true rfl, Nat.le_of_ble_eq_true rfl⟩ ?_
  refine a_dup dX8_init_8 rfl ?_
  refine ci_X8_11 (mc' := 2) (ms' := 72) (Q' := fun v h' => v = none ∧ h' = P ++ [raw8, .inr (0, [.ref (gB G + (q + 2)), .ref (gB G + (q + 3)), .long 0, .long 0, .long 0, .int (nI (3)), .int (nI (2)), .int 0, .long 0, .long 0, .int 0]), zI G 36, zI G 36]) rfl dX8_init_9 (Nat.le_of_ble_eq_true rfl) ⟨Nat.le_of_ble_eq_true rfl, Nat.le_of_ble_eq_true rfl⟩ (AM_h (List.append_assoc P [raw8] [raw0]).symm (i_X0 (by omega) hz (q := q + 1) (P := P ++ [raw8]) (by rw [List.length_append, hP]; rfl) ⟨rfl, List.append_assoc P [raw8] _⟩)) (fun v h' e9 _ => ?_)
  obtain ⟨rfl, rfl⟩ := e9
  refine pf_X8_12 ⟨rfl, rfl⟩ dX8_init_12 (pl_get hP (i := 0) rfl) ?_
  refine a_h (pl_set hP (i := 0) (L' := [.inr (8, [.null, .null, .ref (gB G + (q + 1)), .null, .int 0, .int 0, .int 0, .int 0]), .inr (0, [.ref (gB G + (q + 2)), .ref (gB G + (q + 3)), .long 0, .long 0, .long 0, .int (nI (3)), .int (nI (2)), .int 0, .long 0, .long 0, .int 0]), zI G 36, zI G 36]) rfl) ?_
  refine a_aloadn_0 dX8_init_15 ?_
  refine n_new0 (m := 4) (L' := [.inr (8, [.null, .null, .ref (gB G + (q + 1)), .null, .int 0, .int 0, .int 0, .int 0]), .inr (0, [.ref (gB G + (q + 2)), .ref (gB G + (q + 3)), .long 0, .long 0, .long 0, .int (nI (3)), .int (nI (2)), .int 0, .long 0, .long 0, .int 0]), zI G 36, zI G 36, raw0]) hP rfl rfl hz dX8_init_16 w_214 ⟨Nat.le_of_ble_eq_true rfl, Nat.le_of_ble_eq_true rfl⟩ ?_
  refine a_dup dX8_init_19 rfl ?_
  refine ci_X8_11 (mc' := 2) (ms' := 72) (Q' := fun v h' => v = none ∧ h' = P ++ [.inr (8, [.null, .null, .ref (gB G + (q + 1)), .null, .int 0, .int 0, .int 0, .int 0]), .inr (0, [.ref (gB G + (q + 2)), .ref (gB G + (q + 3)), .long 0, .long 0, .long 0, .int (nI (3)), .int (nI (2)), .int 0, .long 0, .long 0, .int 0]), zI G 36, zI G 36, .inr (0, [.ref (gB G + (q + 5)), .ref (gB G + (q + 6)), .long 0, .long 0, .long 0, .int (nI (3)), .int (nI (2)), .int 0, .long 0, .long 0, .int 0]), zI G 36, zI G 36]) rfl dX8_init_20 (Nat.le_of_ble_eq_true rfl) ⟨Nat.le_of_ble_eq_true rfl, Nat.le_of_ble_eq_true rfl⟩ (AM_h (List.append_assoc P [.inr (8, [.null, .null, .ref (gB G + (q + 1)), .null, .int 0, .int 0, .int 0, .int 0]), .inr (0, [.ref (gB G + (q + 2)), .ref (gB G + (q + 3)), .long 0, .long 0, .long 0, .int (nI (3)), .int (nI (2)), .int 0, .long 0, .long 0, .int 0]), zI G 36, zI G 36] [raw0]).symm (i_X0 (by omega) hz (q := q + 4) (P := P ++ [.inr (8, [.null, .null, .ref (gB G + (q + 1)), .null, .int 0, .int 0, .int 0, .int 0]), .inr (0, [.ref (gB G + (q + 2)), .ref (gB G + (q + 3)), .long 0, .long 0, .long 0, .int (nI (3)), .int (nI (2)), .int 0, .long 0, .long 0, .int 0]), zI G 36, zI G 36]) (by rw [List.length_append, hP]; rfl) ⟨rfl, List.append_assoc P [.inr (8, [.null, .null, .ref (gB G + (q + 1)), .null, .int 0, .int 0, .int 0, .int 0]), .inr (0, [.ref (gB G + (q + 2)), .ref (gB G + (q + 3)), .long 0, .long 0, .long 0, .int (nI (3)), .int (nI (2)), .int 0, .long 0, .long 0, .int 0]), zI G 36, zI G 36] _⟩)) (fun v h' e9 _ => ?_)
  obtain ⟨rfl, rfl⟩ := e9
  refine pf_X8_18 ⟨rfl, rfl⟩ dX8_init_23 (pl_get hP (i := 0) rfl) ?_
  refine a_h (pl_set hP (i := 0) (L' := [.inr (8, [.null, .null, .ref (gB G + (q + 1)), .ref (gB G + (q + 4)), .int 0, .int 0, .int 0, .int 0]), .inr (0, [.ref (gB G + (q + 2)), .ref (gB G + (q + 3)), .long 0, .long 0, .long 0, .int (nI (3)), .int (nI (2)), .int 0, .long 0, .long 0, .int 0]), zI G 36, zI G 36, .inr (0, [.ref (gB G + (q + 5)), .ref (gB G + (q + 6)), .long 0, .long 0, .long 0, .int (nI (3)), .int (nI (2)), .int 0, .long 0, .long 0, .int 0]), zI G 36, zI G 36]) rfl) ?_
  refine a_aloadn_0 dX8_init_26 ?_
  refine a_aloadn_1 dX8_init_27 ?_
  refine pf_X8_21 ⟨rfl, rfl⟩ dX8_init_28 (pl_get hP (i := 0) rfl) ?_
  refine a_h (pl_set hP (i := 0) (L' := [.inr (8, [.ref (x1), .null, .ref (gB G + (q + 1)), .ref (gB G + (q + 4)), .int 0, .int 0, .int 0, .int 0]), .inr (0, [.ref (gB G + (q + 2)), .ref (gB G + (q + 3)), .long 0, .long 0, .long 0, .int (nI (3)), .int (nI (2)), .int 0, .long 0, .long 0, .int 0]), zI G 36, zI G 36, .inr (0, [.ref (gB G + (q + 5)), .ref (gB G + (q + 6)), .long 0, .long 0, .long 0, .int (nI (3)), .int (nI (2)), .int 0, .long 0, .long 0, .int 0]), zI G 36, zI G 36]) rfl) ?_
  refine a_aloadn_0 dX8_init_31 ?_
  refine a_aloadn_2 dX8_init_32 ?_
  refine pf_X8_24 ⟨rfl, rfl⟩ dX8_init_33 (pl_get hP (i := 0) rfl) ?_
  refine a_h (pl_set hP (i := 0) (L' := [.inr (8, [.ref (x1), .ref (x2), .ref (gB G + (q + 1)), .ref (gB G + (q + 4)), .int 0, .int 0, .int 0, .int 0]), .inr (0, [.ref (gB G + (q + 2)), .ref (gB G + (q + 3)), .long 0, .long 0, .long 0, .int (nI (3)), .int (nI (2)), .int 0, .long 0, .long 0, .int 0]), zI G 36, zI G 36, .inr (0, [.ref (gB G + (q + 5)), .ref (gB G + (q + 6)), .long 0, .long 0, .long 0, .int (nI (3)), .int (nI (2)), .int 0, .long 0, .long 0, .int 0]), zI G 36, zI G 36]) rfl) ?_
  exact a_vret dX8_init_36 rfl (fun _ => by rw [List.length_append, List.length_append]; rfl) k
set_option maxRecDepth 100000 in
set_option maxHeartbeats 4000000 in
theorem i_X9 {G : Cx} {d q : Nat} {P : List va_E} {x1 x2 : Nat} {Q : Option Value → List va_E → Prop} (hd : 2 ≤ d) (hz : gz G = true) (hP : P.length = q) (k : Q none (P ++ [.inr (9, [.ref (x1), .ref (x2), .ref (gB G + (q + 1)), .ref (gB G + (q + 2)), .ref (gB G + (q + 3)), .int 0]), zQ G 3 5 (va_up (va_up (va_up (va_up (va_up (fun _ => none) 0 (some (gB G + (q + 4)))) 1 (some (gB G + (q + 7)))) 2 (some (gB G + (q + 10)))) 3 (some (gB G + (q + 13)))) 4 (some (gB G + (q + 16)))), zI G 4, zI G 4, .inr (0, [.ref (gB G + (q + 5)), .ref (gB G + (q + 6)), .long 0, .long 0, .long 0, .int (nI (3)), .int (nI (2)), .int 0, .long 0, .long 0, .int 0]), zI G 36, zI G 36, .inr (0, [.ref (gB G + (q + 8)), .ref (gB G + (q + 9)), .long 0, .long 0, .long 0, .int (nI (3)), .int (nI (2)), .int 0, .long 0, .long 0, .int 0]), zI G 36, zI G 36, .inr (0, [.ref (gB G + (q + 11)), .ref (gB G + (q + 12)), .long 0, .long 0, .long 0, .int (nI (3)), .int (nI (2)), .int 0, .long 0, .long 0, .int 0]), zI G 36, zI G 36, .inr (0, [.ref (gB G + (q + 14)), .ref (gB G + (q + 15)), .long 0, .long 0, .long 0, .int (nI (3)), .int (nI (2)), .int 0, .long 0, .long 0, .int 0]), zI G 36, zI G 36, .inr (0, [.ref (gB G + (q + 17)), .ref (gB G + (q + 18)), .long 0, .long 0, .long 0, .int (nI (3)), .int (nI (2)), .int 0, .long 0, .long 0, .int 0]), zI G 36, zI G 36])) : AM G yX9_init cX9_init 4 none d 18 428 [.ref (gB G + q), .ref (x1), .ref (x2)] (P ++ [raw9]) Q := by
  obtain ⟨d, rfl, he⟩ := dpos hd
  refine AM.of [some (.ref (gB G + q)), some (.ref (x1)), some (.ref (x2)), none] pnX9 (Nat.le_of_ble_eq_true rfl) (by simp [lsub, lvI, Value.category]) ?_
  refine a_aloadn_0 dX9_init_0 ?_
  refine a_objInitR dX9_init_1 w_184 (Nat.le_of_ble_eq_true rfl) ?_
  refine a_aloadn_0 dX9_init_4 ?_
  refine a_iconst (v := nI 5) dX9_init_5 (by decide) ?_
  refine n_newQC (m := 1) (n := 5) (L' := [raw9, zQ G 3 5 (fun _ => none)]) hP rfl rfl hz dX9_init_6 w_185 rfl (by decide) ⟨Nat.le_of_ble_eq_true rfl, Nat.le_of_ble_eq_true rfl⟩ ?_
  refine pf_X9_13 ⟨rfl, rfl⟩ dX9_init_9 (pl_get hP (i := 0) rfl) ?_
  refine a_h (pl_set hP (i := 0) (L' := [.inr (9, [.null, .null, .ref (gB G + (q + 1)), .null, .null, .int 0]), zQ G 3 5 (fun _ => none)]) rfl) ?_
  refine a_aloadn_0 dX9_init_12 ?_
  refine a_iconst (v := nI 4) dX9_init_13 (by decide) ?_
  refine n_newI (m := 2) (n := 4) (L' := [.inr (9, [.null, .null, .ref (gB G + (q + 1)), .null, .null, .int 0]), zQ G 3 5 (fun _ => none), zI G 4]) hP rfl rfl hz dX9_init_14 rfl (by decide) ⟨Nat.le_of_ble_eq_true rfl, Nat.le_of_ble_eq_true rfl⟩ ?_
  refine pf_X9_17 ⟨rfl, rfl⟩ dX9_init_16 (pl_get hP (i := 0) rfl) ?_
  refine a_h (pl_set hP (i := 0) (L' := [.inr (9, [.null, .null, .ref (gB G + (q + 1)), .ref (gB G + (q + 2)), .null, .int 0]), zQ G 3 5 (fun _ => none), zI G 4]) rfl) ?_
  refine a_aloadn_0 dX9_init_19 ?_
  refine a_iconst (v := nI 4) dX9_init_20 (by decide) ?_
  refine n_newI (m := 3) (n := 4) (L' := [.inr (9, [.null, .null, .ref (gB G + (q + 1)), .ref (gB G + (q + 2)), .null, .int 0]), zQ G 3 5 (fun _ => none), zI G 4, zI G 4]) hP rfl rfl hz dX9_init_21 rfl (by decide) ⟨Nat.le_of_ble_eq_true rfl, Nat.le_of_ble_eq_true rfl⟩ ?_
  refine pf_X9_21 ⟨rfl, rfl⟩ dX9_init_23 (pl_get hP (i := 0) rfl) ?_
  refine a_h (pl_set hP (i := 0) (L' := [.inr (9, [.null, .null, .ref (gB G + (q + 1)), .ref (gB G + (q + 2)), .ref (gB G + (q + 3)), .int 0]), zQ G 3 5 (fun _ => none), zI G 4, zI G 4]) rfl) ?_
  refine a_aloadn_0 dX9_init_26 ?_
  refine a_aloadn_1 dX9_init_27 ?_
  refine pf_X9_24 ⟨rfl, rfl⟩ dX9_init_28 (pl_get hP (i := 0) rfl) ?_
  refine a_h (pl_set hP (i := 0) (L' := [.inr (9, [.ref (x1), .null, .ref (gB G + (q + 1)), .ref (gB G + (q + 2)), .ref (gB G + (q + 3)), .int 0]), zQ G 3 5 (fun _ => none), zI G 4, zI G 4]) rfl) ?_
  refine a_aloadn_0 dX9_init_31 ?_
  refine a_aloadn_2 dX9_init_32 ?_
  refine pf_X9_28 ⟨rfl, rfl⟩ dX9_init_33 (pl_get hP (i := 0) rfl) ?_
  refine a_h (pl_set hP (i := 0) (L' := [.inr (9, [.ref (x1), .ref (x2), .ref (gB G + (q + 1)), .ref (gB G + (q + 2)), .ref (gB G + (q + 3)), .int 0]), zQ G 3 5 (fun _ => none), zI G 4, zI G 4]) rfl) ?_
  refine a_iconst (v := nI 0) dX9_init_36 (by decide) ?_
  refine a_istoren_3 dX9_init_37 (by decide) (by first | rfl | trivial) ?_
  refine a_iloadn_3 dX9_init_38 ?_
  refine a_iconst (v := nI 4) dX9_init_39 (by decide) ?_
  refine n_icmp_gt (tgt := 62) dX9_init_40 (by decide) (by decide) (by decide) (fun c9 => by omega) (fun c9 => ?_)
  refine a_aloadn_0 dX9_init_43 ?_
  refine gf_X9_13 rfl dX9_init_44 (pl_get hP (i := 0) rfl) ?_
  refine a_iloadn_3 dX9_init_47 ?_
  refine n_new0 (m := 4) (L' := [.inr (9, [.ref (x1), .ref (x2), .ref (gB G + (q + 1)), .ref (gB G + (q + 2)), .ref (gB G + (q + 3)), .int 0]), zQ G 3 5 (fun _ => none), zI G 4, zI G 4, raw0]) hP rfl rfl hz dX9_init_48 w_185 ⟨Nat.le_of_ble_eq_true rfl, Nat.le_of_ble_eq_true rfl⟩ ?_
  refine a_dup dX9_init_51 rfl ?_
  refine ci_X9_32 (mc' := 2) (ms' := 72) (Q' := fun v h' => v = none ∧ h' = P ++ [.inr (9, [.ref (x1), .ref (x2), .ref (gB G + (q + 1)), .ref (gB G + (q + 2)), .ref (gB G + (q + 3)), .int 0]), zQ G 3 5 (fun _ => none), zI G 4, zI G 4, .inr (0, [.ref (gB G + (q + 5)), .ref (gB G + (q + 6)), .long 0, .long 0, .long 0, .int (nI (3)), .int (nI (2)), .int 0, .long 0, .long 0, .int 0]), zI G 36, zI G 36]) rfl dX9_init_52 (Nat.le_of_ble_eq_true rfl) ⟨Nat.le_of_ble_eq_true rfl, Nat.le_of_ble_eq_true rfl⟩ (AM_h (List.append_assoc P [.inr (9, [.ref (x1), .ref (x2), .ref (gB G + (q + 1)), .ref (gB G + (q + 2)), .ref (gB G + (q + 3)), .int 0]), zQ G 3 5 (fun _ => none), zI G 4, zI G 4] [raw0]).symm (i_X0 (by omega) hz (q := q + 4) (P := P ++ [.inr (9, [.ref (x1), .ref (x2), .ref (gB G + (q + 1)), .ref (gB G + (q + 2)), .ref (gB G + (q + 3)), .int 0]), zQ G 3 5 (fun _ => none), zI G 4, zI G 4]) (by rw [List.length_append, hP]; rfl) ⟨rfl, List.append_assoc P [.inr (9, [.ref (x1), .ref (x2), .ref (gB G + (q + 1)), .ref (gB G + (q + 2)), .ref (gB G + (q + 3)), .int 0]), zQ G 3 5 (fun _ => none), zI G 4, zI G 4] _⟩)) (fun v h' e9 _ => ?_)
  obtain ⟨rfl, rfl⟩ := e9
  refine a_aast (r := (RX0, TX0, 11)) 3 0 dX9_init_55 rfl (by decide) (by decide) rfl (pl_get hP (i := 1) rfl) (pl_get hP (i := 4) rfl) rfl ?_
  refine a_h (pl_set hP (i := 1) (L' := [.inr (9, [.ref (x1), .ref (x2), .ref (gB G + (q + 1)), .ref (gB G + (q + 2)), .ref (gB G + (q + 3)), .int 0]), zQ G 3 5 (va_up (fun _ => none) 0 (some (gB G + (q + 4)))), zI G 4, zI G 4, .inr (0, [.ref (gB G + (q + 5)), .ref (gB G + (q + 6)), .long 0, .long 0, .long 0, .int (nI (3)), .int (nI (2)), .int 0, .long 0, .long 0, .int 0]), zI G 36, zI G 36]) rfl) ?_
  refine a_iinc_3 (v := nI (1)) dX9_init_56 (nI_add _ _) (by decide) (by first | rfl | trivial) ?_
  refine a_goto (tgt := 38) dX9_init_59 (by decide) ?_
  refine a_iloadn_3 dX9_init_38 ?_
  refine a_iconst (v := nI 4) dX9_init_39 (by decide) ?_
  refine n_icmp_gt (tgt := 62) dX9_init_40 (by decide) (by decide) (by decide) (fun c9 => by omega) (fun c9 => ?_)
  refine a_aloadn_0 dX9_init_43 ?_
  refine gf_X9_13 rfl dX9_init_44 (pl_get hP (i := 0) rfl) ?_
  refine a_iloadn_3 dX9_init_47 ?_
  refine n_new0 (m := 7) (L' := [.inr (9, [.ref (x1), .ref (x2), .ref (gB G + (q + 1)), .ref (gB G + (q + 2)), .ref (gB G + (q + 3)), .int 0]), zQ G 3 5 (va_up (fun _ => none) 0 (some (gB G + (q + 4)))), zI G 4, zI G 4, .inr (0, [.ref (gB G + (q + 5)), .ref (gB G + (q + 6)), .long 0, .long 0, .long 0, .int (nI (3)), .int (nI (2)), .int 0, .long 0, .long 0, .int 0]), zI G 36, zI G 36, raw0]) hP rfl rfl hz dX9_init_48 w_185 ⟨Nat.le_of_ble_eq_true rfl, Nat.le_of_ble_eq_true rfl⟩ ?_
  refine a_dup dX9_init_51 rfl ?_
  refine ci_X9_32 (mc' := 2) (ms' := 72) (Q' := fun v h' => v = none ∧ h' = P ++ [.inr (9, [.ref (x1), .ref (x2), .ref (gB G + (q + 1)), .ref (gB G + (q + 2)), .ref (gB G + (q + 3)), .int 0]), zQ G 3 5 (va_up (fun _ => none) 0 (some (gB G + (q + 4)))), zI G 4, zI G 4, .inr (0, [.ref (gB G + (q + 5)), .ref (gB G + (q + 6)), .long 0, .long 0, .long 0, .int (nI (3)), .int (nI (2)), .int 0, .long 0, .long 0, .int 0]), zI G 36, zI G 36, .inr (0, [.ref (gB G + (q + 8)), .ref (gB G + (q + 9)), .long 0, .long 0, .long 0, .int (nI (3)), .int (nI (2)), .int 0, .long 0, .long 0, .int 0]), zI G 36, zI G 36]) rfl dX9_init_52 (Nat.le_of_ble_eq_true rfl) ⟨Nat.le_of_ble_eq_true rfl, Nat.le_of_ble_eq_true rfl⟩ (AM_h (List.append_assoc P [.inr (9, [.ref (x1), .ref (x2), .ref (gB G + (q + 1)), .ref (gB G + (q + 2)), .ref (gB G + (q + 3)), .int 0]), zQ G 3 5 (va_up (fun _ => none) 0 (some (gB G + (q + 4)))), zI G 4, zI G 4, .inr (0, [.ref (gB G + (q + 5)), .ref (gB G + (q + 6)), .long 0, .long 0, .long 0, .int (nI (3)), .int (nI (2)), .int 0, .long 0, .long 0, .int 0]), zI G 36, zI G 36] [raw0]).symm (i_X0 (by omega) hz (q := q + 7) (P := P ++ [.inr (9, [.ref (x1), .ref (x2), .ref (gB G + (q + 1)), .ref (gB G + (q + 2)), .ref (gB G + (q + 3)), .int 0]), zQ G 3 5 (va_up (fun _ => none) 0 (some (gB G + (q + 4)))), zI G 4, zI G 4, .inr (0, [.ref (gB G + (q + 5)), .ref (gB G + (q + 6)), .long 0, .long 0, .long 0, .int (nI (3)), .int (nI (2)), .int 0, .long 0, .long 0, .int 0]), zI G 36, zI G 36]) (by rw [List.length_append, hP]; rfl) ⟨rfl, List.append_assoc P [.inr (9, [.ref (x1), .ref (x2), .ref (gB G + (q + 1)), .ref (gB G + (q + 2)), .ref (gB G + (q + 3)), .int 0]), zQ G 3 5 (va_up (fun _ => none) 0 (some (gB G + (q + 4)))), zI G 4, zI G 4, .inr (0, [.ref (gB G + (q + 5)), .ref (gB G + (q + 6)), .long 0, .long 0, .long 0, .int (nI (3)), .int (nI (2)), .int 0, .long 0, .long 0, .int 0]), zI G 36, zI G 36] _⟩)) (fun v h' e9 _ => ?_)
  obtain ⟨rfl, rfl⟩ := e9
  refine a_aast (r := (RX0, TX0, 11)) 3 1 dX9_init_55 rfl (by decide) (by decide) rfl (pl_get hP (i := 1) rfl) (pl_get hP (i := 7) rfl) rfl ?_
  refine a_h (pl_set hP (i := 1) (L' := [.inr (9, [.ref (x1), .ref (x2), .ref (gB G + (q + 1)), .ref (gB G + (q + 2)), .ref (gB G + (q + 3)), .int 0]), zQ G 3 5 (va_up (va_up (fun _ => none) 0 (some (gB G + (q + 4)))) 1 (some (gB G + (q + 7)))), zI G 4, zI G 4, .inr (0, [.ref (gB G + (q + 5)), .ref (gB G + (q + 6)), .long 0, .long 0, .long 0, .int (nI (3)), .int (nI (2)), .int 0, .long 0, .long 0, .int 0]), zI G 36, zI G 36, .inr (0, [.ref (gB G + (q + 8)), .ref (gB G + (q + 9)), .long 0, .long 0, .long 0, .int (nI (3)), .int (nI (2)), .int 0, .long 0, .long 0, .int 0]), zI G 36, zI G 36]) rfl) ?_
  refine a_iinc_3 (v := nI (2)) dX9_init_56 (nI_add _ _) (by decide) (by first | rfl | trivial) ?_
  refine a_goto (tgt := 38) dX9_init_59 (by decide) ?_
  refine a_iloadn_3 dX9_init_38 ?_
  refine a_iconst (v := nI 4) dX9_init_39 (by decide) ?_
  refine n_icmp_gt (tgt := 62) dX9_init_40 (by decide) (by decide) (by decide) (fun c9 => by omega) (fun c9 => ?_)
  refine a_aloadn_0 dX9_init_43 ?_
  refine gf_X9_13 rfl dX9_init_44 (pl_get hP (i := 0) rfl) ?_
  refine a_iloadn_3 dX9_init_47 ?_
  refine n_new0 (m := 10) (L' := [.inr (9, [.ref (x1), .ref (x2), .ref (gB G + (q + 1)), .ref (gB G + (q + 2)), .ref (gB G + (q + 3)), .int 0]), zQ G 3 5 (va_up (va_up (fun _ => none) 0 (some (gB G + (q + 4)))) 1 (some (gB G + (q + 7)))), zI G 4, zI G 4, .inr (0, [.ref (gB G + (q + 5)), .ref (gB G + (q + 6)), .long 0, .long 0, .long 0, .int (nI (3)), .int (nI (2)), .int 0, .long 0, .long 0, .int 0]), zI G 36, zI G 36, .inr (0, [.ref (gB G + (q + 8)), .ref (gB G + (q + 9)), .long 0, .long 0, .long 0, .int (nI (3)), .int (nI (2)), .int 0, .long 0, .long 0, .int 0]), zI G 36, zI G 36, raw0]) hP rfl rfl hz dX9_init_48 w_185 ⟨Nat.le_of_ble_eq_true rfl, Nat.le_of_ble_eq_true rfl⟩ ?_
  refine a_dup dX9_init_51 rfl ?_
  refine ci_X9_32 (mc' := 2) (ms' := 72) (Q' := fun v h' => v = none ∧ h' = P ++ [.inr (9, [.ref (x1), .ref (x2), .ref (gB G + (q + 1)), .ref (gB G + (q + 2)), .ref (gB G + (q + 3)), .int 0]), zQ G 3 5 (va_up (va_up (fun _ => none) 0 (some (gB G + (q + 4)))) 1 (some (gB G + (q + 7)))), zI G 4, zI G 4, .inr (0, [.ref (gB G + (q + 5)), .ref (gB G + (q + 6)), .long 0, .long 0, .long 0, .int (nI (3)), .int (nI (2)), .int 0, .long 0, .long 0, .int 0]), zI G 36, zI G 36, .inr (0, [.ref (gB G + (q + 8)), .ref (gB G + (q + 9)), .long 0, .long 0, .long 0, .int (nI (3)), .int (nI (2)), .int 0, .long 0, .long 0, .int 0]), zI G 36, zI G 36, .inr (0, [.ref (gB G + (q + 11)), .ref (gB G + (q + 12)), .long 0, .long 0, .long 0, .int (nI (3)), .int (nI (2)), .int 0, .long 0, .long 0, .int 0]), zI G 36, zI G 36]) rfl dX9_init_52 (Nat.le_of_ble_eq_true rfl) ⟨Nat.le_of_ble_eq_true rfl, Nat.le_of_ble_eq_true rfl⟩ (AM_h (List.append_assoc P [.inr (9, [.ref (x1), .ref (x2), .ref (gB G + (q + 1)), .ref (gB G + (q + 2)), .ref (gB G + (q + 3)), .int 0]), zQ G 3 5 (va_up (va_up (fun _ => none) 0 (some (gB G + (q + 4)))) 1 (some (gB G + (q + 7)))), zI G 4, zI G 4, .inr (0, [.ref (gB G + (q + 5)), .ref (gB G + (q + 6)), .long 0, .long 0, .long 0, .int (nI (3)), .int (nI (2)), .int 0, .long 0, .long 0, .int 0]), zI G 36, zI G 36, .inr (0, [.ref (gB G + (q + 8)), .ref (gB G + (q + 9)), .long 0, .long 0, .long 0, .int (nI (3)), .int (nI (2)), .int 0, .long 0, .long 0, .int 0]), zI G 36, zI G 36] [raw0]).symm (i_X0 (by omega) hz (q := q + 10) (P := P ++ [.inr (9, [.ref (x1), .ref (x2), .ref (gB G + (q + 1)), .ref (gB G + (q + 2)), .ref (gB G + (q + 3)), .int 0]), zQ G 3 5 (va_up (va_up (fun _ => none) 0 (some (gB G + (q + 4)))) 1 (some (gB G + (q + 7)))), zI G 4, zI G 4, .inr (0, [.ref (gB G + (q + 5)), .ref (gB G + (q + 6)), .long 0, .long 0, .long 0, .int (nI (3)), .int (nI (2)), .int 0, .long 0, .long 0, .int 0]), zI G 36, zI G 36, .inr (0, [.ref (gB G + (q + 8)), .ref (gB G + (q + 9)), .long 0, .long 0, .long 0, .int (nI (3)), .int (nI (2)), .int 0, .long 0, .long 0, .int 0]), zI G 36, zI G 36]) (by rw [List.length_append, hP]; rfl) ⟨rfl, List.append_assoc P [.inr (9, [.ref (x1), .ref (x2), .ref (gB G + (q + 1)), .ref (gB G + (q + 2)), .ref (gB G + (q + 3)), .int 0]), zQ G 3 5 (va_up (va_up (fun _ => none) 0 (some (gB G + (q + 4)))) 1 (some (gB G + (q + 7)))), zI G 4, zI G 4, .inr (0, [.ref (gB G + (q + 5)), .ref (gB G + (q + 6)), .long 0, .long 0, .long 0, .int (nI (3)), .int (nI (2)), .int 0, .long 0, .long 0, .int 0]), zI G 36, zI G 36, .inr (0, [.ref (gB G + (q + 8)), .ref (gB G + (q + 9)), .long 0, .long 0, .long 0, .int (nI (3)), .int (nI (2)), .int 0, .long 0, .long 0, .int 0]), zI G 36, zI G 36] _⟩)) (fun v h' e9 _ => ?_)
  obtain ⟨rfl, rfl⟩ := e9
  refine a_aast (r := (RX0, TX0, 11)) 3 2 dX9_init_55 rfl (by decide) (by decide) rfl (pl_get hP (i := 1) rfl) (pl_get hP (i := 10) rfl) rfl ?_
  refine a_h (pl_set hP (i := 1) (L' := [.inr (9, [.ref (x1), .ref (x2), .ref (gB G + (q + 1)), .ref (gB G + (q + 2)), .ref (gB G + (q + 3)), .int 0]), zQ G 3 5 (va_up (va_up (va_up (fun _ => none) 0 (some (gB G + (q + 4)))) 1 (some (gB G + (q + 7)))) 2 (some (gB G + (q + 10)))), zI G 4, zI G 4, .inr (0, [.ref (gB G + (q + 5)), .ref (gB G + (q + 6)), .long 0, .long 0, .long 0, .int (nI (3)), .int (nI (2)), .int 0, .long 0, .long 0, .int 0]), zI G 36, zI G 36, .inr (0, [.ref (gB G + (q + 8)), .ref (gB G + (q + 9)), .long 0, .long 0, .long 0, .int (nI (3)), .int (nI (2)), .int 0, .long 0, .long 0, .int 0]), zI G 36, zI G 36, .inr (0, [.ref (gB G + (q + 11)), .ref (gB G + (q + 12)), .long 0, .long 0, .long 0, .int (nI (3)), .int (nI (2)), .int 0, .long 0, .long 0, .int 0]), zI G 36, zI G 36]) rfl) ?_
  refine a_iinc_3 (v := nI (3)) dX9_init_56 (nI_add _ _) (by decide) (by first | rfl | trivial) ?_
  refine a_goto (tgt := 38) dX9_init_59 (by decide) ?_
  refine a_iloadn_3 dX9_init_38 ?_
  refine a_iconst (v := nI 4) dX9_init_39 (by decide) ?_
  refine n_icmp_gt (tgt := 62) dX9_init_40 (by decide) (by decide) (by decide) (fun c9 => by omega) (fun c9 => ?_)
  refine a_aloadn_0 dX9_init_43 ?_
  refine gf_X9_13 rfl dX9_init_44 (pl_get hP (i := 0) rfl) ?_
  refine a_iloadn_3 dX9_init_47 ?_
  refine n_new0 (m := 13) (L' := [.inr (9, [.ref (x1), .ref (x2), .ref (gB G + (q + 1)), .ref (gB G + (q + 2)), .ref (gB G + (q + 3)), .int 0]), zQ G 3 5 (va_up (va_up (va_up (fun _ => none) 0 (some (gB G + (q + 4)))) 1 (some (gB G + (q + 7)))) 2 (some (gB G + (q + 10)))), zI G 4, zI G 4, .inr (0, [.ref (gB G + (q + 5)), .ref (gB G + (q + 6)), .long 0, .long 0, .long 0, .int (nI (3)), .int (nI (2)), .int 0, .long 0, .long 0, .int 0]), zI G 36, zI G 36, .inr (0, [.ref (gB G + (q + 8)), .ref (gB G + (q + 9)), .long 0, .long 0, .long 0, .int (nI (3)), .int (nI (2)), .int 0, .long 0, .long 0, .int 0]), zI G 36, zI G 36, .inr (0, [.ref (gB G + (q + 11)), .ref (gB G + (q + 12)), .long 0, .long 0, .long 0, .int (nI (3)), .int (nI (2)), .int 0, .long 0, .long 0, .int 0]), zI G 36, zI G 36, raw0]) hP rfl rfl hz dX9_init_48 w_185 ⟨Nat.le_of_ble_eq_true rfl, Nat.le_of_ble_eq_true rfl⟩ ?_
  refine a_dup dX9_init_51 rfl ?_
  refine ci_X9_32 (mc' := 2) (ms' := 72) (Q' := fun v h' => v = none ∧ h' = P ++ [.inr (9, [.ref (x1), .ref (x2), .ref (gB G + (q + 1)), .ref (gB G + (q + 2)), .ref (gB G + (q + 3)), .int 0]), zQ G 3 5 (va_up (va_up (va_up (fun _ => none) 0 (some (gB G + (q + 4)))) 1 (some (gB G + (q + 7)))) 2 (some (gB G + (q + 10)))), zI G 4, zI G 4, .inr (0, [.ref (gB G + (q + 5)), .ref (gB G + (q + 6)), .long 0, .long 0, .long 0, .int (nI (3)), .int (nI (2)), .int 0, .long 0, .long 0, .int 0]), zI G 36, zI G 36, .inr (0, [.ref (gB G + (q + 8)), .ref (gB G + (q + 9)), .long 0, .long 0, .long 0, .int (nI (3)), .int (nI (2)), .int 0, .long 0, .long 0, .int 0]), zI G 36, zI G 36, .inr (0, [.ref (gB G + (q + 11)), .ref (gB G + (q + 12)), .long 0, .long 0, .long 0, .int (nI (3)), .int (nI (2)), .int 0, .long 0, .long 0, .int 0]), zI G 36, zI G 36, .inr (0, [.ref (gB G + (q + 14)), .ref (gB G + (q + 15)), .long 0, .long 0, .long 0, .int (nI (3)), .int (nI (2)), .int 0, .long 0, .long 0, .int 0]), zI G 36, zI G 36]) rfl dX9_init_52 (Nat.le_of_ble_eq_true rfl) ⟨Nat.le_of_ble_eq_true rfl, Nat.le_of_ble_eq_true rfl⟩ (AM_h (List.append_assoc P [.inr (9, [.ref (x1), .ref (x2), .ref (gB G + (q + 1)), .ref (gB G + (q + 2)), .ref (gB G + (q + 3)), .int 0]), zQ G 3 5 (va_up (va_up (va_up (fun _ => none) 0 (some (gB G + (q + 4)))) 1 (some (gB G + (q + 7)))) 2 (some (gB G + (q + 10)))), zI G 4, zI G 4, .inr (0, [.ref (gB G + (q + 5)), .ref (gB G + (q + 6)), .long 0, .long 0, .long 0, .int (nI (3)), .int (nI (2)), .int 0, .long 0, .long 0, .int 0]), zI G 36, zI G 36, .inr (0, [.ref (gB G + (q + 8)), .ref (gB G + (q + 9)), .long 0, .long 0, .long 0, .int (nI (3)), .int (nI (2)), .int 0, .long 0, .long 0, .int 0]), zI G 36, zI G 36, .inr (0, [.ref (gB G + (q + 11)), .ref (gB G + (q + 12)), .long 0, .long 0, .long 0, .int (nI (3)), .int (nI (2)), .int 0, .long 0, .long 0, .int 0]), zI G 36, zI G 36] [raw0]).symm (i_X0 (by omega) hz (q := q + 13) (P := P ++ [.inr (9, [.ref (x1), .ref (x2), .ref (gB G + (q + 1)), .ref (gB G + (q + 2)), .ref (gB G + (q + 3)), .int 0]), zQ G 3 5 (va_up (va_up (va_up (fun _ => none) 0 (some (gB G + (q + 4)))) 1 (some (gB G + (q + 7)))) 2 (some (gB G + (q + 10)))), zI G 4, zI G 4, .inr (0, [.ref (gB G + (q + 5)), .ref (gB G + (q + 6)), .long 0, .long 0, .long 0, .int (nI (3)), .int (nI (2)), .int 0, .long 0, .long 0, .int 0]), zI G 36, zI G 36, .inr (0, [.ref (gB G + (q + 8)), .ref (gB G + (q + 9)), .long 0, .long 0, .long 0, .int (nI (3)), .int (nI (2)), .int 0, .long 0, .long 0, .int 0]), zI G 36, zI G 36, .inr (0, [.ref (gB G + (q + 11)), .ref (gB G + (q + 12)), .long 0, .long 0, .long 0, .int (nI (3)), .int (nI (2)), .int 0, .long 0, .long 0, .int 0]), zI G 36, zI G 36]) (by rw [List.length_append, hP]; rfl) ⟨rfl, List.append_assoc P [.inr (9, [.ref (x1), .ref (x2), .ref (gB G + (q + 1)), .ref (gB G + (q + 2)), .ref (gB G + (q + 3)), .int 0]), zQ G 3 5 (va_up (va_up (va_up (fun _ => none) 0 (some (gB G + (q + 4)))) 1 (some (gB G + (q + 7)))) 2 (some (gB G + (q + 10)))), zI G 4, zI G 4, .inr (0, [.ref (gB G + (q + 5)), .ref (gB G + (q + 6)), .long 0, .long 0, .long 0, .int (nI (3)), .int (nI (2)), .int 0, .long 0, .long 0, .int 0]), zI G 36, zI G 36, .inr (0, [.ref (gB G + (q + 8)), .ref (gB G + (q + 9)), .long 0, .long 0, .long 0, .int (nI (3)), .int (nI (2)), .int 0, .long 0, .long 0, .int 0]), zI G 36, zI G 36, .inr (0, [.ref (gB G + (q + 11)), .ref (gB G + (q + 12)), .long 0, .long 0, .long 0, .int (nI (3)), .int (nI (2)), .int 0, .long 0, .long 0, .int 0]), zI G 36, zI G 36] _⟩)) (fun v h' e9 _ => ?_)
  obtain ⟨rfl, rfl⟩ := e9
  refine a_aast (r := (RX0, TX0, 11)) 3 3 dX9_init_55 rfl (by decide) (by decide) rfl (pl_get hP (i := 1) rfl) (pl_get hP (i := 13) rfl) rfl ?_
  refine a_h (pl_set hP (i := 1) (L' := [.inr (9, [.ref (x1), .ref (x2), .ref (gB G + (q + 1)), .ref (gB G + (q + 2)), .ref (gB G + (q + 3)), .int 0]), zQ G 3 5 (va_up (va_up (va_up (va_up (fun _ => none) 0 (some (gB G + (q + 4)))) 1 (some (gB G + (q + 7)))) 2 (some (gB G + (q + 10)))) 3 (some (gB G + (q + 13)))), zI G 4, zI G 4, .inr (0, [.ref (gB G + (q + 5)), .ref (gB G + (q + 6)), .long 0, .long 0, .long 0, .int (nI (3)), .int (nI (2)), .int 0, .long 0, .long 0, .int 0]), zI G 36, zI G 36, .inr (0, [.ref (gB G + (q + 8)), .ref (gB G + (q + 9)), .long 0, .long 0, .long 0, .int (nI (3)), .int (nI (2)), .int 0, .long 0, .long 0, .int 0]), zI G 36, zI G 36, .inr (0, [.ref (gB G + (q + 11)), .ref (gB G + (q + 12)), .long 0, .long 0, .long 0, .int (nI (3)), .int (nI (2)), .int 0, .long 0, .long 0, .int 0]), zI G 36, zI G 36, .inr (0, [.ref (gB G + (q + 14)), .ref (gB G + (q + 15)), .long 0, .long 0, .long 0, .int (nI (3)), .int (nI (2)), .int 0, .long 0, .long 0, .int 0]), zI G 36, zI G 36]) rfl) ?_
  refine a_iinc_3 (v := nI (4)) dX9_init_56 (nI_add _ _) (by decide) (by first | rfl | trivial) ?_
  refine a_goto (tgt := 38) dX9_init_59 (by decide) ?_
  refine a_iloadn_3 dX9_init_38 ?_
  refine a_iconst (v := nI 4) dX9_init_39 (by decide) ?_
  refine n_icmp_gt (tgt := 62) dX9_init_40 (by decide) (by decide) (by decide) (fun c9 => by omega) (fun c9 => ?_)
  refine a_aloadn_0 dX9_init_43 ?_
  refine gf_X9_13 rfl dX9_init_44 (pl_get hP (i := 0) rfl) ?_
  refine a_iloadn_3 dX9_init_47 ?_
  refine n_new0 (m := 16) (L' := [.inr (9, [.ref (x1), .ref (x2), .ref (gB G + (q + 1)), .ref (gB G + (q + 2)), .ref (gB G + (q + 3)), .int 0]), zQ G 3 5 (va_up (va_up (va_up (va_up (fun _ => none) 0 (some (gB G + (q + 4)))) 1 (some (gB G + (q + 7)))) 2 (some (gB G + (q + 10)))) 3 (some (gB G + (q + 13)))), zI G 4, zI G 4, .inr (0, [.ref (gB G + (q + 5)), .ref (gB G + (q + 6)), .long 0, .long 0, .long 0, .int (nI (3)), .int (nI (2)), .int 0, .long 0, .long 0, .int 0]), zI G 36, zI G 36, .inr (0, [.ref (gB G + (q + 8)), .ref (gB G + (q + 9)), .long 0, .long 0, .long 0, .int (nI (3)), .int (nI (2)), .int 0, .long 0, .long 0, .int 0]), zI G 36, zI G 36, .inr (0, [.ref (gB G + (q + 11)), .ref (gB G + (q + 12)), .long 0, .long 0, .long 0, .int (nI (3)), .int (nI (2)), .int 0, .long 0, .long 0, .int 0]), zI G 36, zI G 36, .inr (0, [.ref (gB G + (q + 14)), .ref (gB G + (q + 15)), .long 0, .long 0, .long 0, .int (nI (3)), .int (nI (2)), .int 0, .long 0, .long 0, .int 0]), zI G 36, zI G 36, raw0]) hP rfl rfl hz dX9_init_48 w_185 ⟨Nat.le_of_ble_eq_true rfl, Nat.le_of_ble_eq_true rfl⟩ ?_
  refine a_dup dX9_init_51 rfl ?_
  refine ci_X9_32 (mc' := 2) (ms' := 72) (Q' := fun v h' => v = none ∧ h' = P ++ [.inr (9, [.ref (x1), .ref (x2), .ref (gB G + (q + 1)), .ref (gB G + (q + 2)), .ref (gB G + (q + 3)), .int 0]), zQ G 3 5 (va_up (va_up (va_up (va_up (fun _ => none) 0 (some (gB G + (q + 4)))) 1 (some (gB G + (q + 7)))) 2 (some (gB G + (q + 10)))) 3 (some (gB G + (q + 13)))), zI G 4, zI G 4, .inr (0, [.ref (gB G + (q + 5)), .ref (gB G + (q + 6)), .long 0, .long 0, .long 0, .int (nI (3)), .int (nI (2)), .int 0, .long 0, .long 0, .int 0]), zI G 36, zI G 36, .inr (0, [.ref (gB G + (q + 8)), .ref (gB G + (q + 9)), .long 0, .long 0, .long 0, .int (nI (3)), .int (nI (2)), .int 0, .long 0, .long 0, .int 0]), zI G 36, zI G 36, .inr (0, [.ref (gB G + (q + 11)), .ref (gB G + (q + 12)), .long 0, .long 0, .long 0, .int (nI (3)), .int (nI (2)), .int 0, .long 0, .long 0, .int 0]), zI G 36, zI G 36, .inr (0, [.ref (gB G + (q + 14)), .ref (gB G + (q + 15)), .long 0, .long 0, .long 0, .int (nI (3)), .int (nI (2)), .int 0, .long 0, .long 0, .int 0]), zI G 36, zI G 36, .inr (0, [.ref (gB G + (q + 17)), .ref (gB G + (q + 18)), .long 0, .long 0, .long 0, .int (nI (3)), .int (nI (2)), .int 0, .long 0, .long 0, .int 0]), zI G 36, zI G 36]) rfl dX9_init_52 (Nat.le_of_ble_eq_true rfl) ⟨Nat.le_of_ble_eq_true rfl, Nat.le_of_ble_eq_true rfl⟩ (AM_h (List.append_assoc P [.inr (9, [.ref (x1), .ref (x2), .ref (gB G + (q + 1)), .ref (gB G + (q + 2)), .ref (gB G + (q + 3)), .int 0]), zQ G 3 5 (va_up (va_up (va_up (va_up (fun _ => none) 0 (some (gB G + (q + 4)))) 1 (some (gB G + (q + 7)))) 2 (some (gB G + (q + 10)))) 3 (some (gB G + (q + 13)))), zI G 4, zI G 4, .inr (0, [.ref (gB G + (q + 5)), .ref (gB G + (q + 6)), .long 0, .long 0, .long 0, .int (nI (3)), .int (nI (2)), .int 0, .long 0, .long 0, .int 0]), zI G 36, zI G 36, .inr (0, [.ref (gB G + (q + 8)), .ref (gB G + (q + 9)), .long 0, .long 0, .long 0, .int (nI (3)), .int (nI (2)), .int 0, .long 0, .long 0, .int 0]), zI G 36, zI G 36, .inr (0, [.ref (gB G + (q + 11)), .ref (gB G + (q + 12)), .long 0, .long 0, .long 0, .int (nI (3)), .int (nI (2)), .int 0, .long 0, .long 0, .int 0]), zI G 36, zI G 36, .inr (0, [.ref (gB G + (q + 14)), .ref (gB G + (q + 15)), .long 0, .long 0, .long 0, .int (nI (3)), .int (nI (2)), .int 0, .long 0, .long 0, .int 0]), zI G 36, zI G 36] [raw0]).symm (i_X0 (by omega) hz (q := q + 16) (P := P ++ [.inr (9, [.ref (x1), .ref (x2), .ref (gB G + (q + 1)), .ref (gB G + (q + 2)), .ref (gB G + (q + 3)), .int 0]), zQ G 3 5 (va_up (va_up (va_up (va_up (fun _ => none) 0 (some (gB G + (q + 4)))) 1 (some (gB G + (q + 7)))) 2 (some (gB G + (q + 10)))) 3 (some (gB G + (q + 13)))), zI G 4, zI G 4, .inr (0, [.ref (gB G + (q + 5)), .ref (gB G + (q + 6)), .long 0, .long 0, .long 0, .int (nI (3)), .int (nI (2)), .int 0, .long 0, .long 0, .int 0]), zI G 36, zI G 36, .inr (0, [.ref (gB G + (q + 8)), .ref (gB G + (q + 9)), .long 0, .long 0, .long 0, .int (nI (3)), .int (nI (2)), .int 0, .long 0, .long 0, .int 0]), zI G 36, zI G 36, .inr (0, [.ref (gB G + (q + 11)), .ref (gB G + (q + 12)), .long 0, .long 0, .long 0, .int (nI (3)), .int (nI (2)), .int 0, .long 0, .long 0, .int 0]), zI G 36, zI G 36, .inr (0, [.ref (gB G + (q + 14)), .ref (gB G + (q + 15)), .long 0, .long 0, .long 0, .int (nI (3)), .int (nI (2)), .int 0, .long 0, .long 0, .int 0]), zI G 36, zI G 36]) (by rw [List.length_append, hP]; rfl) ⟨rfl, List.append_assoc P [.inr (9, [.ref (x1), .ref (x2), .ref (gB G + (q + 1)), .ref (gB G + (q + 2)), .ref (gB G + (q + 3)), .int 0]), zQ G 3 5 (va_up (va_up (va_up (va_up (fun _ => none) 0 (some (gB G + (q + 4)))) 1 (some (gB G + (q + 7)))) 2 (some (gB G + (q + 10)))) 3 (some (gB G + (q + 13)))), zI G 4, zI G 4, .inr (0, [.ref (gB G + (q + 5)), .ref (gB G + (q + 6)), .long 0, .long 0, .long 0, .int (nI (3)), .int (nI (2)), .int 0, .long 0, .long 0, .int 0]), zI G 36, zI G 36, .inr (0, [.ref (gB G + (q + 8)), .ref (gB G + (q + 9)), .long 0, .long 0, .long 0, .int (nI (3)), .int (nI (2)), .int 0, .long 0, .long 0, .int 0]), zI G 36, zI G 36, .inr (0, [.ref (gB G + (q + 11)), .ref (gB G + (q + 12)), .long 0, .long 0, .long 0, .int (nI (3)), .int (nI (2)), .int 0, .long 0, .long 0, .int 0]), zI G 36, zI G 36, .inr (0, [.ref (gB G + (q + 14)), .ref (gB G + (q + 15)), .long 0, .long 0, .long 0, .int (nI (3)), .int (nI (2)), .int 0, .long 0, .long 0, .int 0]), zI G 36, zI G 36] _⟩)) (fun v h' e9 _ => ?_)
  obtain ⟨rfl, rfl⟩ := e9
  refine a_aast (r := (RX0, TX0, 11)) 3 4 dX9_init_55 rfl (by decide) (by decide) rfl (pl_get hP (i := 1) rfl) (pl_get hP (i := 16) rfl) rfl ?_
  refine a_h (pl_set hP (i := 1) (L' := [.inr (9, [.ref (x1), .ref (x2), .ref (gB G + (q + 1)), .ref (gB G + (q + 2)), .ref (gB G + (q + 3)), .int 0]), zQ G 3 5 (va_up (va_up (va_up (va_up (va_up (fun _ => none) 0 (some (gB G + (q + 4)))) 1 (some (gB G + (q + 7)))) 2 (some (gB G + (q + 10)))) 3 (some (gB G + (q + 13)))) 4 (some (gB G + (q + 16)))), zI G 4, zI G 4, .inr (0, [.ref (gB G + (q + 5)), .ref (gB G + (q + 6)), .long 0, .long 0, .long 0, .int (nI (3)), .int (nI (2)), .int 0, .long 0, .long 0, .int 0]), zI G 36, zI G 36, .inr (0, [.ref (gB G + (q + 8)), .ref (gB G + (q + 9)), .long 0, .long 0, .long 0, .int (nI (3)), .int (nI (2)), .int 0, .long 0, .long 0, .int 0]), zI G 36, zI G 36, .inr (0, [.ref (gB G + (q + 11)), .ref (gB G + (q + 12)), .long 0, .long 0, .long 0, .int (nI (3)), .int (nI (2)), .int 0, .long 0, .long 0, .int 0]), zI G 36, zI G 36, .inr (0, [.ref (gB G + (q + 14)), .ref (gB G + (q + 15)), .long 0, .long 0, .long 0, .int (nI (3)), .int (nI (2)), .int 0, .long 0, .long 0, .int 0]), zI G 36, zI G 36, .inr (0, [.ref (gB G + (q + 17)), .ref (gB G + (q + 18)), .long 0, .long 0, .long 0, .int (nI (3)), .int (nI (2)), .int 0, .long 0, .long 0, .int 0]), zI G 36, zI G 36]) rfl) ?_
  refine a_iinc_3 (v := nI (5)) dX9_init_56 (nI_add _ _) (by decide) (by first | rfl | trivial) ?_
  refine a_goto (tgt := 38) dX9_init_59 (by decide) ?_
  refine a_iloadn_3 dX9_init_38 ?_
  refine a_iconst (v := nI 4) dX9_init_39 (by decide) ?_
  refine n_icmp_gt (tgt := 62) dX9_init_40 (by decide) (by decide) (by decide) (fun c9 => ?_) (fun c9 => by omega)
  exact a_vret dX9_init_62 rfl (fun _ => by rw [List.length_append, List.length_append]; rfl) k
set_option maxRecDepth 100000 in
set_option maxHeartbeats 4000000 in
theorem i_X10 {G : Cx} {d q : Nat} {P : List va_E} {x1 : Nat} {Q : Option Value → List va_E → Prop} (hd : 1 ≤ d) (hz : gz G = true) (hP : P.length = q) (k : Q none (P ++ [.inr (10, [.ref (x1), .ref (gB G + (q + 1))]), zL G 36])) : AM G yX10_init cX10_init 2 none d 1 36 [.ref (gB G + q), .ref (x1)] (P ++ [raw10]) Q := by
  obtain ⟨d, rfl, he⟩ := dpos hd
  refine AM.of [some (.ref (gB G + q)), some (.ref (x1))] pnX10 (Nat.le_of_ble_eq_true rfl) (by simp [lsub, lvI, Value.category]) ?_
  refine a_aloadn_0 dX10_init_0 ?_
  refine a_objInitR dX10_init_1 w_247 (Nat.le_of_ble_eq_true rfl) ?_
  refine a_aloadn_0 dX10_init_4 ?_
  refine a_bipush (v := nI 36) dX10_init_5 (by decide) ?_
  refine n_newL (m := 1) (n := 36) (L' := [raw10, zL G 36]) hP rfl rfl hz dX10_init_7 rfl (by decide) ⟨Nat.le_of_ble_eq_true rfl, Nat.le_of_ble_eq_true rfl⟩ ?_
  refine pf_X10_9 ⟨rfl, rfl⟩ dX10_init_9 (pl_get hP (i := 0) rfl) ?_
  refine a_h (pl_set hP (i := 0) (L' := [.inr (10, [.null, .ref (gB G + (q + 1))]), zL G 36]) rfl) ?_
  refine a_aloadn_0 dX10_init_12 ?_
  refine a_aloadn_1 dX10_init_13 ?_
  refine pf_X10_15 ⟨rfl, rfl⟩ dX10_init_14 (pl_get hP (i := 0) rfl) ?_
  refine a_h (pl_set hP (i := 0) (L' := [.inr (10, [.ref (x1), .ref (gB G + (q + 1))]), zL G 36]) rfl) ?_
  exact a_vret dX10_init_17 rfl (fun _ => by rw [List.length_append, List.length_append]; rfl) k
