section NRows
variable {G : Cx} {y : MethodName} {cc : ByteArray} {mL : Nat} {rt : Option FieldType} {R : Room} {Z : List Frame → Array Value → State → State → Prop} {cn sn pc : Nat} {ls : List (Option Value)} {st : List Value} {h : List va_E}
theorem n_iadd {x z : Nat} (hd : decode cc pc = .ok (.iadd, 1)) (k : AW G y cc mL rt R Z cn sn (pc + 1) ls (.int (nI (x + z)) :: st) h) : AW G y cc mL rt R Z cn sn pc ls (.int (nI z) :: .int (nI x) :: st) h :=
  a_iadd hd (a_topi _ (nI_add x z) k)
theorem n_imul {x z : Nat} (hd : decode cc pc = .ok (.imul, 1)) (k : AW G y cc mL rt R Z cn sn (pc + 1) ls (.int (nI (x * z)) :: st) h) : AW G y cc mL rt R Z cn sn pc ls (.int (nI z) :: .int (nI x) :: st) h :=
  a_imul hd (a_topi _ (pk_mul x z) k)
theorem n_isub {x z : Nat} (hd : decode cc pc = .ok (.isub, 1)) (hx : z ≤ x) (k : AW G y cc mL rt R Z cn sn (pc + 1) ls (.int (nI (x - z)) :: st) h) : AW G y cc mL rt R Z cn sn pc ls (.int (nI z) :: .int (nI x) :: st) h :=
  a_isub hd (a_topi _ (pk_sub hx) k)
theorem n_idiv {x z : Nat} (hd : decode cc pc = .ok (.idiv, 1)) (hx : x < 2147483648) (h0 : 0 < z) (hz : z < 2147483648) (k : AW G y cc mL rt R Z cn sn (pc + 1) ls (.int (nI (x / z)) :: st) h) : AW G y cc mL rt R Z cn sn pc ls (.int (nI z) :: .int (nI x) :: st) h :=
  a_idiv hd (nI_ne0 h0 hz) (a_topi _ (pk_div hx h0 hz) k)
theorem n_irem {x z : Nat} (hd : decode cc pc = .ok (.irem, 1)) (hx : x < 2147483648) (h0 : 0 < z) (hz : z < 2147483648) (k : AW G y cc mL rt R Z cn sn (pc + 1) ls (.int (nI (x % z)) :: st) h) : AW G y cc mL rt R Z cn sn pc ls (.int (nI z) :: .int (nI x) :: st) h :=
  a_irem hd (nI_ne0 h0 hz) (a_topi _ (pk_rem hx h0 hz) k)
theorem n_icmp_eq {x z : Nat} {off : Int} {tgt : Nat} (hd : decode cc pc = .ok (.if_icmp .eq off, 3)) (ht : (pc : Int) + off = (tgt : Int)) (hx : x < 2147483648) (hz : z < 2147483648) (kt : x = z → AW G y cc mL rt R Z cn sn tgt ls st h) (kf : ¬ x = z → AW G y cc mL rt R Z cn sn (pc + 3) ls st h) : AW G y cc mL rt R Z cn sn pc ls (.int (nI z) :: .int (nI x) :: st) h :=
  a_icmp_eq hd ht (fun q => kt ((nI_eq hx hz).mp q)) (fun q => kf (fun r => q ((nI_eq hx hz).mpr r)))
theorem n_icmp_ne {x z : Nat} {off : Int} {tgt : Nat} (hd : decode cc pc = .ok (.if_icmp .ne off, 3)) (ht : (pc : Int) + off = (tgt : Int)) (hx : x < 2147483648) (hz : z < 2147483648) (kt : ¬ x = z → AW G y cc mL rt R Z cn sn tgt ls st h) (kf : x = z → AW G y cc mL rt R Z cn sn (pc + 3) ls st h) : AW G y cc mL rt R Z cn sn pc ls (.int (nI z) :: .int (nI x) :: st) h :=
  a_icmp_ne hd ht (fun q => kt (fun r => q ((nI_eq hx hz).mpr r))) (fun q => kf ((nI_eq hx hz).mp q))
theorem n_icmp_lt {x z : Nat} {off : Int} {tgt : Nat} (hd : decode cc pc = .ok (.if_icmp .lt off, 3)) (ht : (pc : Int) + off = (tgt : Int)) (hx : x < 2147483648) (hz : z < 2147483648) (kt : x < z → AW G y cc mL rt R Z cn sn tgt ls st h) (kf : z ≤ x → AW G y cc mL rt R Z cn sn (pc + 3) ls st h) : AW G y cc mL rt R Z cn sn pc ls (.int (nI z) :: .int (nI x) :: st) h :=
  a_icmp_lt hd ht (fun q => kt ((nI_ltI hx hz).mp q)) (fun q => kf (Nat.not_lt.mp (fun r => q ((nI_ltI hx hz).mpr r))))
theorem n_icmp_ge {x z : Nat} {off : Int} {tgt : Nat} (hd : decode cc pc = .ok (.if_icmp .ge off, 3)) (ht : (pc : Int) + off = (tgt : Int)) (hx : x < 2147483648) (hz : z < 2147483648) (kt : z ≤ x → AW G y cc mL rt R Z cn sn tgt ls st h) (kf : x < z → AW G y cc mL rt R Z cn sn (pc + 3) ls st h) : AW G y cc mL rt R Z cn sn pc ls (.int (nI z) :: .int (nI x) :: st) h :=
  a_icmp_ge hd ht (fun q => kt ((nI_leI hz hx).mp q)) (fun q => kf (Nat.not_le.mp (fun r => q ((nI_leI hz hx).mpr r))))
theorem n_icmp_gt {x z : Nat} {off : Int} {tgt : Nat} (hd : decode cc pc = .ok (.if_icmp .gt off, 3)) (ht : (pc : Int) + off = (tgt : Int)) (hx : x < 2147483648) (hz : z < 2147483648) (kt : z < x → AW G y cc mL rt R Z cn sn tgt ls st h) (kf : x ≤ z → AW G y cc mL rt R Z cn sn (pc + 3) ls st h) : AW G y cc mL rt R Z cn sn pc ls (.int (nI z) :: .int (nI x) :: st) h :=
  a_icmp_gt hd ht (fun q => kt ((nI_ltI hz hx).mp q)) (fun q => kf (Nat.not_lt.mp (fun r => q ((nI_ltI hz hx).mpr r))))
theorem n_icmp_le {x z : Nat} {off : Int} {tgt : Nat} (hd : decode cc pc = .ok (.if_icmp .le off, 3)) (ht : (pc : Int) + off = (tgt : Int)) (hx : x < 2147483648) (hz : z < 2147483648) (kt : x ≤ z → AW G y cc mL rt R Z cn sn tgt ls st h) (kf : z < x → AW G y cc mL rt R Z cn sn (pc + 3) ls st h) : AW G y cc mL rt R Z cn sn pc ls (.int (nI z) :: .int (nI x) :: st) h :=
  a_icmp_le hd ht (fun q => kt ((nI_leI hx hz).mp q)) (fun q => kf (Nat.not_le.mp (fun r => q ((nI_leI hx hz).mpr r))))
theorem n_if_eq {x : Nat} {off : Int} {tgt : Nat} (hd : decode cc pc = .ok (.ifCond .eq off, 3)) (ht : (pc : Int) + off = (tgt : Int)) (hx : x < 2147483648) (kt : x = 0 → AW G y cc mL rt R Z cn sn tgt ls st h) (kf : 0 < x → AW G y cc mL rt R Z cn sn (pc + 3) ls st h) : AW G y cc mL rt R Z cn sn pc ls (.int (nI x) :: st) h :=
  a_if_eq hd ht (fun q => kt ((nI_eq hx (by decide : 0 < 2147483648)).mp q)) (fun q => kf (Nat.pos_of_ne_zero (fun r => q ((nI_eq hx (by decide : 0 < 2147483648)).mpr r))))
theorem n_if_ne {x : Nat} {off : Int} {tgt : Nat} (hd : decode cc pc = .ok (.ifCond .ne off, 3)) (ht : (pc : Int) + off = (tgt : Int)) (hx : x < 2147483648) (kt : 0 < x → AW G y cc mL rt R Z cn sn tgt ls st h) (kf : x = 0 → AW G y cc mL rt R Z cn sn (pc + 3) ls st h) : AW G y cc mL rt R Z cn sn pc ls (.int (nI x) :: st) h :=
  a_if_ne hd ht (fun q => kt (Nat.pos_of_ne_zero (fun r => q ((nI_eq hx (by decide : 0 < 2147483648)).mpr r)))) (fun q => kf ((nI_eq hx (by decide : 0 < 2147483648)).mp q))
theorem n_if_lt {x : Nat} {off : Int} {tgt : Nat} (hd : decode cc pc = .ok (.ifCond .lt off, 3)) (ht : (pc : Int) + off = (tgt : Int)) (hx : x < 2147483648) (kf : AW G y cc mL rt R Z cn sn (pc + 3) ls st h) : AW G y cc mL rt R Z cn sn pc ls (.int (nI x) :: st) h :=
  a_if_lt hd ht (fun q => absurd q (nI_pos hx)) (fun _ => kf)
theorem n_if_ge {x : Nat} {off : Int} {tgt : Nat} (hd : decode cc pc = .ok (.ifCond .ge off, 3)) (ht : (pc : Int) + off = (tgt : Int)) (hx : x < 2147483648) (kt : AW G y cc mL rt R Z cn sn tgt ls st h) : AW G y cc mL rt R Z cn sn pc ls (.int (nI x) :: st) h :=
  a_if_ge hd ht (fun _ => kt) (fun q => absurd (nI_pos' hx) q)
theorem n_if_gt {x : Nat} {off : Int} {tgt : Nat} (hd : decode cc pc = .ok (.ifCond .gt off, 3)) (ht : (pc : Int) + off = (tgt : Int)) (hx : x < 2147483648) (kt : 0 < x → AW G y cc mL rt R Z cn sn tgt ls st h) (kf : x = 0 → AW G y cc mL rt R Z cn sn (pc + 3) ls st h) : AW G y cc mL rt R Z cn sn pc ls (.int (nI x) :: st) h :=
  a_if_gt hd ht (fun q => kt ((nI_ltI (by decide : 0 < 2147483648) hx).mp q)) (fun q => kf (Nat.eq_zero_of_not_pos (fun r => q ((nI_ltI (by decide : 0 < 2147483648) hx).mpr r))))
theorem n_if_le {x : Nat} {off : Int} {tgt : Nat} (hd : decode cc pc = .ok (.ifCond .le off, 3)) (ht : (pc : Int) + off = (tgt : Int)) (hx : x < 2147483648) (kt : x = 0 → AW G y cc mL rt R Z cn sn tgt ls st h) (kf : 0 < x → AW G y cc mL rt R Z cn sn (pc + 3) ls st h) : AW G y cc mL rt R Z cn sn pc ls (.int (nI x) :: st) h :=
  a_if_le hd ht (fun q => kt (by have := (nI_leI hx (by decide : 0 < 2147483648)).mp q; omega)) (fun q => kf (Nat.pos_of_ne_zero (fun r => q ((nI_leI hx (by decide : 0 < 2147483648)).mpr (Nat.le_of_eq r)))))
theorem b_if_eq {b : Bool} {off : Int} {tgt : Nat} (hd : decode cc pc = .ok (.ifCond .eq off, 3)) (ht : (pc : Int) + off = (tgt : Int)) (kt : b = false → AW G y cc mL rt R Z cn sn tgt ls st h) (kf : b = true → AW G y cc mL rt R Z cn sn (pc + 3) ls st h) : AW G y cc mL rt R Z cn sn pc ls (.int (bI b) :: st) h :=
  a_if_eq hd ht (fun q => kt (bI_0.mp q)) (fun q => kf (by cases b with | true => rfl | false => exact absurd rfl q))
theorem b_if_ne {b : Bool} {off : Int} {tgt : Nat} (hd : decode cc pc = .ok (.ifCond .ne off, 3)) (ht : (pc : Int) + off = (tgt : Int)) (kt : b = true → AW G y cc mL rt R Z cn sn tgt ls st h) (kf : b = false → AW G y cc mL rt R Z cn sn (pc + 3) ls st h) : AW G y cc mL rt R Z cn sn pc ls (.int (bI b) :: st) h :=
  a_if_ne hd ht (fun q => kt (by cases b with | true => rfl | false => exact absurd rfl q)) (fun q => kf (bI_0.mp q))
theorem n_l2i {x : Nat} (hd : decode cc pc = .ok (.l2i, 1)) (k : AW G y cc mL rt R Z cn sn (pc + 1) ls (.int (nI x) :: st) h) : AW G y cc mL rt R Z cn sn pc ls (.long (lN x) :: st) h :=
  a_l2i hd (a_topi _ (lN_i x) k)
theorem n_i2l {x : Nat} (hd : decode cc pc = .ok (.i2l, 1)) (hx : x < 2147483648) (k : AW G y cc mL rt R Z cn sn (pc + 1) ls (.long (lN x) :: st) h) : AW G y cc mL rt R Z cn sn pc ls (.int (nI x) :: st) h :=
  a_i2l hd (a_topl _ (nI_l hx) k)
end NRows
theorem ltN {x n : Nat} (h : x < n) (hn : n ≤ 2147483648) : x < 2147483648 := Nat.lt_of_lt_of_le h hn
abbrev iN (x : Int32) : Nat := x.toNatClampNeg
theorem iN_nI {n : Nat} (h : n < 2147483648) : iN (nI n) = n := nI_clamp h
/-- lo ≤ x ≤ hi -/
def inR (lo hi : Int32) (x : Int32) : Bool := decide (lo ≤ x) && decide (x ≤ hi)
theorem inR_nI {hi n : Nat} (hh : hi < 2147483648) (hn : n < 2147483648) : inR 0 (nI hi) (nI n) = decide (n ≤ hi) := by
  unfold inR
  rw [show (0 : Int32) = nI 0 from rfl, decide_eq_true ((nI_leI (by decide) hn).mpr (Nat.zero_le n)), Bool.true_and]
  by_cases e : n ≤ hi
  · rw [decide_eq_true e, decide_eq_true ((nI_leI hn hh).mpr e)]
  · rw [decide_eq_false e, decide_eq_false (fun q => e ((nI_leI hn hh).mp q))]
theorem inR_of {hi : Nat} {x : Int32} (hh : hi < 2147483648) (h : inR 0 (nI hi) x = true) : ∃ n, n ≤ hi ∧ x = nI n := by
  unfold inR at h
  rw [Bool.and_eq_true, decide_eq_true_iff, decide_eq_true_iff] at h
  exact nI_of2 (nI_toInt hh) (Int32.not_lt.mpr h.1) h.2
theorem inR_1 {lo hi : Nat} {x : Int32} (hl : lo < 2147483648) (hh : hi < 2147483648) (h : inR (nI lo) (nI hi) x = true) : ∃ n, lo ≤ n ∧ n ≤ hi ∧ x = nI n := by
  unfold inR at h
  rw [Bool.and_eq_true, decide_eq_true_iff, decide_eq_true_iff] at h
  have h0 : (0 : Int32) ≤ nI lo := nI_pos' hl
  obtain ⟨n, hn, rfl⟩ := nI_of2 (nI_toInt hh) (Int32.not_lt.mpr (Int32.le_trans h0 h.1)) h.2
  exact ⟨n, (nI_leI hl (by omega)).mp h.1, hn, rfl⟩
