/-! THE REFERENCE, hours: what lies beside, what is lit, how many are dark -/
theorem pnX12 : plainName RX12 = true := by decide
def inL (lo hi x : Int64) : Bool := decide (lo ≤ x) && decide (x ≤ hi)
theorem lN_leI {a b : Nat} (ha : a < 2147483648) (hb : b < 2147483648) : lN a ≤ lN b ↔ a ≤ b := by
  rw [Int64.le_iff_toInt_le, lN_toInt ha, lN_toInt hb]; omega
theorem inL_lN {hi n : Nat} (hh : hi < 2147483648) (hn : n < 2147483648) : inL 0 (lN hi) (lN n) = decide (n ≤ hi) := by
  unfold inL
  rw [show (0 : Int64) = lN 0 from rfl, decide_eq_true ((lN_leI (by decide) hn).mpr (Nat.zero_le n)), Bool.true_and]
  by_cases e : n ≤ hi
  · rw [decide_eq_true e, decide_eq_true ((lN_leI hn hh).mpr e)]
  · rw [decide_eq_false e, decide_eq_false (fun q => e ((lN_leI hn hh).mp q))]
theorem inL_i (lo hi x : Int32) : inL lo.toInt64 hi.toInt64 x.toInt64 = inR lo hi x := by
  unfold inL inR
  congr 1
  · rw [decide_eq_decide, Int64.le_iff_toInt_le, Int32.le_iff_toInt_le, Int32.toInt_toInt64, Int32.toInt_toInt64]
  · rw [decide_eq_decide, Int64.le_iff_toInt_le, Int32.le_iff_toInt_le, Int32.toInt_toInt64, Int32.toInt_toInt64]
theorem nI_dec {a : Nat} (h : 1 ≤ a) : nI a + Int32.ofInt (-1) = nI (a - 1) := by
  rw [show a = (a - 1) + 1 by omega]
  exact pk_m1 (a - 1)
theorem lg_lt (x z : Int64) : lg_cmp x z < 0 ↔ x < z := by
  unfold lg_cmp
  split
  · rename_i h
    rw [gt_iff_lt, Int64.lt_iff_toInt_lt] at h
    exact ⟨fun q => absurd q (by decide), fun q => by rw [Int64.lt_iff_toInt_lt] at q; omega⟩
  · split
    · rename_i h e
      subst e
      exact ⟨fun q => absurd q (by decide), fun q => absurd q Int64.lt_irrefl⟩
    · rename_i h e
      refine ⟨fun _ => ?_, fun _ => by decide⟩
      have e2 : x.toInt ≠ z.toInt := fun q => e (Int64.toInt_inj.mp q)
      rw [gt_iff_lt, Int64.lt_iff_toInt_lt] at h
      rw [Int64.lt_iff_toInt_lt]
      omega
theorem lg_gt (x z : Int64) : 0 < lg_cmp x z ↔ z < x := by
  unfold lg_cmp
  split
  · rename_i h
    exact ⟨fun _ => h, fun _ => by decide⟩
  · rename_i h
    refine ⟨fun q => ?_, fun q => absurd q h⟩
    split at q
    · exact absurd q (by decide)
    · exact absurd q (by decide)
/-- which room lies beside -/
def bsd (r way : Nat) : Option Nat := match way with
  | 0 => if r < 6 then none else some (r - 6)
  | 1 => if r % 6 = 5 then none else some (r + 1)
  | 2 => if r < 30 then some (r + 6) else none
  | 3 => if r % 6 = 0 then none else some (r - 1)
  | _ => none
theorem bsd_lt {r way o : Nat} (hr : r < 36) (h : bsd r way = some o) : o < 36 := by
  unfold bsd at h
  split at h
  · split at h
    · cases h
    · cases h; omega
  · split at h
    · cases h
    · cases h; omega
  · split at h
    · cases h; omega
    · cases h
  · split at h
    · cases h
    · cases h; omega
  · cases h
def dW (k : Nat → Bool) (r w : Nat) : Nat := match bsd r w with
  | none => 1
  | some o => (k o).toNat
def lW (l : Nat → Bool) (r w : Nat) : Nat := match bsd r w with
  | none => 0
  | some o => (l o).toNat
theorem ctn_one (l : Nat → Bool) (o : Nat) : ∀ n, ctn (fun i => l i && decide (some o = some i)) n = if o < n then (l o).toNat else 0
  | 0 => by simp [ctn]
  | n + 1 => by
    rw [ctn, ctn_one l o n]
    by_cases e : o = n
    · subst e; simp
    · have : (decide (some o = some n)) = false := by simp [e]
      rw [this, Bool.and_false]
      by_cases h : o < n
      · rw [if_pos h, if_pos (by omega)]; rfl
      · rw [if_neg h, if_neg (by omega)]; rfl
theorem ctn_none (l : Nat → Bool) : ∀ n, ctn (fun i => l i && decide ((none : Option Nat) = some i)) n = 0
  | 0 => rfl
  | n + 1 => by rw [ctn, ctn_none l n]; simp
theorem lW_ctn (l : Nat → Bool) {r w : Nat} (hr : r < 36) : lW l r w = ctn (fun i => l i && decide (bsd r w = some i)) 36 := by
  unfold lW
  cases h : bsd r w with
  | none => exact (ctn_none l 36).symm
  | some o => exact (ctn_one l o 36).symm ▸ by rw [if_pos (bsd_lt hr h)]
theorem bes_bsd {r i : Nat} (hr : r < 36) (hi : i < 36) : (bes r i).toNat = (decide (bsd r 0 = some i)).toNat + (decide (bsd r 1 = some i)).toNat + (decide (bsd r 2 = some i)).toNat + (decide (bsd r 3 = some i)).toNat := by
  have : ∀ r i : Fin 36, (bes r i).toNat = (decide (bsd r 0 = some i.val)).toNat + (decide (bsd r 1 = some i.val)).toNat + (decide (bsd r 2 = some i.val)).toNat + (decide (bsd r 3 = some i.val)).toNat := by decide +kernel
  exact this ⟨r, hr⟩ ⟨i, hi⟩
theorem lB_ways (l : Nat → Bool) {r : Nat} (hr : r < 36) : lB l r = lW l r 0 + lW l r 1 + lW l r 2 + lW l r 3 := by
  rw [lW_ctn l hr, lW_ctn l hr, lW_ctn l hr, lW_ctn l hr]
  unfold lB
  have key : ∀ n, n ≤ 36 → ctn (fun i => l i && bes r i) n = ctn (fun i => l i && decide (bsd r 0 = some i)) n + ctn (fun i => l i && decide (bsd r 1 = some i)) n + ctn (fun i => l i && decide (bsd r 2 = some i)) n + ctn (fun i => l i && decide (bsd r 3 = some i)) n := by
    intro n
    induction n with
    | zero => intro _; rfl
    | succ n ih =>
      intro hn
      have h1 := ih (by omega)
      have h2 := bes_bsd hr (show n < 36 by omega)
      simp only [ctn]
      rw [h1]
      cases hl : l n
      · simp
      · simp only [Bool.true_and]
        omega
  exact key 36 (Nat.le_refl _)
theorem edN_ways {r : Nat} (hr : r < 36) : edN r = (if bsd r 0 = none then 1 else 0) + (if bsd r 1 = none then 1 else 0) + (if bsd r 2 = none then 1 else 0) + (if bsd r 3 = none then 1 else 0) := by
  have : ∀ r : Fin 36, edN r = (if bsd r 0 = none then 1 else 0) + (if bsd r 1 = none then 1 else 0) + (if bsd r 2 = none then 1 else 0) + (if bsd r 3 = none then 1 else 0) := by decide +kernel
  exact this ⟨r, hr⟩
theorem dW_lW (k : Nat → Bool) (r w : Nat) : dW k r w = lW k r w + (if bsd r w = none then 1 else 0) := by
  unfold dW lW
  cases bsd r w <;> simp
theorem dB_ways (k : Nat → Bool) {r : Nat} (hr : r < 36) : dB k r = dW k r 0 + dW k r 1 + dW k r 2 + dW k r 3 := by
  have h1 := lB_ways k hr
  have h2 := edN_ways hr
  rw [dW_lW, dW_lW, dW_lW, dW_lW]
  unfold dB
  unfold lB at h1
  omega
def sumW (f : Nat → Nat) : Nat → Nat
  | 0 => 0
  | n + 1 => sumW f n + f n
theorem sumW_4 (f : Nat → Nat) : sumW f 4 = f 0 + f 1 + f 2 + f 3 := by simp [sumW]
theorem sumW_le {f : Nat → Nat} {c : Nat} (h : ∀ i, f i ≤ c) : ∀ n, sumW f n ≤ c * n
  | 0 => Nat.le_refl _
  | n + 1 => by have := sumW_le h n; have := h n; rw [sumW, Nat.mul_succ]; omega
theorem dW_le (k : Nat → Bool) (r w : Nat) : dW k r w ≤ 1 := by
  unfold dW
  cases bsd r w with
  | none => exact Nat.le_refl _
  | some o => exact Bool.toNat_le (k o)
theorem lW_le (k : Nat → Bool) (r w : Nat) : lW k r w ≤ 1 := by
  unfold lW
  cases bsd r w with
  | none => simp
  | some o => exact Bool.toNat_le (k o)
/-- the hour's rows stand for a city -/
def HV (m : Mv) (v : Cv) : Prop := (∀ r, r < 36 → mWax m r = cW v r ∧ mIsDark m r = (cK v r).toNat ∧ mMay m (36 + r) = cG v r ∧ mMay m (72 + r) = (cC v r).toNat) ∧ mMay m 144 = cH v ∧ mMay m 145 = cB v ∧ mHourThen m = cT v
/-- the numbers that stand are a city's -/
def BV (m : Mv) (v : Cv) : Prop := (∀ r, r < 36 → mMay m r = cW v r ∧ mMay m (108 + r) = (cK v r).toNat ∧ mMay m (36 + r) = cG v r ∧ mMay m (72 + r) = (cC v r).toNat) ∧ mMay m 144 = cH v ∧ mMay m 145 = cB v ∧ mMay m 146 = cT v
theorem va_up_lt {f g : Nat → Nat} {i x : Nat} (h : ∀ r, r < i → f r = g r) (e : x = g i) : ∀ r, r < i + 1 → va_up f i x r = g r := by
  intro r hr
  unfold va_up
  by_cases q : r = i
  · rw [if_pos q, e, q]
  · rw [if_neg q]; exact h r (by omega)
set_option maxRecDepth 100000 in
set_option maxHeartbeats 4000000 in
theorem m_within {G : Cx} {d : Nat} {h : List va_E} {Q : Option Value → List va_E → Prop} {x lo hi : Int64} (hd : 1 ≤ d) (hz : gz G = false) (k : Q (some (.int (bI (inL lo hi x)))) h) : AM G yX12_within cX12_within 6 (some .boolean) d 0 0 [.long x, .long lo, .long hi] h Q := by
  obtain ⟨d, rfl, he⟩ := dpos hd
  refine AM.of [some (.long (x)), none, some (.long (lo)), none, some (.long (hi)), none] pnX12 (Nat.le_of_ble_eq_true rfl) (by simp [lsub, lvI, Value.category]) ?_
  refine a_lloadn_0 (pc := 0) dX12_within_0 ?_
  refine a_lloadn_2 (pc := 1) dX12_within_1 ?_
  refine a_lcmp (pc := 2) dX12_within_2 ?_
  refine a_if_lt (pc := 3) (tgt := 17) dX12_within_3 (by decide) (fun c_3 => ?_) (fun c_3 => ?_)
  · rw [lg_lt] at c_3
    refine a_iconst (pc := 17) (v := nI 0) dX12_within_17 (by decide) ?_
    refine a_zret (pc := 18) dX12_within_18 rfl (by first | rfl | exact bI_nar _ | decide) (zf hz) ?_
    first | (rw [show inL lo hi x = true by (simp only [inL, Bool.and_eq_true, decide_eq_true_eq]; exact ⟨Int64.not_lt.mp c_3, Int64.not_lt.mp c_10⟩)] at k; exact k) | (rw [show inL lo hi x = false by (simp only [inL, Bool.and_eq_false_iff, decide_eq_false_iff_not]; first | exact Or.inl (Int64.not_le.mpr c_3) | exact Or.inr (Int64.not_le.mpr c_10))] at k; exact k)
  · rw [lg_lt] at c_3
    refine a_lloadn_0 (pc := 6) dX12_within_6 ?_
    refine a_lload_4 (pc := 7) dX12_within_7 ?_
    refine a_lcmp (pc := 9) dX12_within_9 ?_
    refine a_if_gt (pc := 10) (tgt := 17) dX12_within_10 (by decide) (fun c_10 => ?_) (fun c_10 => ?_)
    · rw [lg_gt] at c_10
      refine a_iconst (pc := 17) (v := nI 0) dX12_within_17 (by decide) ?_
      refine a_zret (pc := 18) dX12_within_18 rfl (by first | rfl | exact bI_nar _ | decide) (zf hz) ?_
      first | (rw [show inL lo hi x = true by (simp only [inL, Bool.and_eq_true, decide_eq_true_eq]; exact ⟨Int64.not_lt.mp c_3, Int64.not_lt.mp c_10⟩)] at k; exact k) | (rw [show inL lo hi x = false by (simp only [inL, Bool.and_eq_false_iff, decide_eq_false_iff_not]; first | exact Or.inl (Int64.not_le.mpr c_3) | exact Or.inr (Int64.not_le.mpr c_10))] at k; exact k)
    · rw [lg_gt] at c_10
      refine a_iconst (pc := 13) (v := nI 1) dX12_within_13 (by decide) ?_
      refine a_goto (pc := 14) (tgt := 18) dX12_within_14 (by decide) ?_
      refine a_zret (pc := 18) dX12_within_18 rfl (by first | rfl | exact bI_nar _ | decide) (zf hz) ?_
      first | (rw [show inL lo hi x = true by (simp only [inL, Bool.and_eq_true, decide_eq_true_eq]; exact ⟨Int64.not_lt.mp c_3, Int64.not_lt.mp c_10⟩)] at k; exact k) | (rw [show inL lo hi x = false by (simp only [inL, Bool.and_eq_false_iff, decide_eq_false_iff_not]; first | exact Or.inl (Int64.not_le.mpr c_3) | exact Or.inr (Int64.not_le.mpr c_10))] at k; exact k)
set_option maxRecDepth 100000 in
set_option maxHeartbeats 4000000 in
theorem m_isRoom {G : Cx} {d : Nat} {h : List va_E} {Q : Option Value → List va_E → Prop} {x : Int64} (hd : 2 ≤ d) (hz : gz G = false) (k : Q (some (.int (bI (inL 0 35 x)))) h) : AM G yX12_isRoom cX12_isRoom 2 (some .boolean) d 0 0 [.long x] h Q := by
  obtain ⟨d, rfl, he⟩ := dpos hd
  refine AM.of [some (.long x), none] pnX12 (Nat.le_of_ble_eq_true rfl) (by simp [lsub, lvI, Value.category]) ?_
  refine a_lloadn_0 (pc := 0) dX12_isRoom_0 ?_
  refine a_lconst (pc := 1) (v := 0) dX12_isRoom_1 (by decide) ?_
  refine a_ldc2 (pc := 2) dX12_isRoom_2 w_1141 ?_
  refine cs_X12_96 (pc := 5) rfl dX12_isRoom_5 (Nat.le_of_ble_eq_true rfl) ?_
  refine m_within (by omega) hz ?_
  exact a_zret (pc := 8) dX12_isRoom_8 rfl (by first | rfl | exact bI_nar _ | decide) (zf hz) k
set_option maxRecDepth 100000 in
set_option maxHeartbeats 4000000 in
theorem m_beside {G : Cx} {d : Nat} {h : List va_E} {Q : Option Value → List va_E → Prop} {r way : Nat} (hd : 2 ≤ d) (hz : gz G = false) (hr : r < 36) (hw : way < 4) (k : Q (some (.int (oI (bsd r way)))) h) : AM G yX12_beside cX12_beside 4 (some .int) d 0 0 [.int (nI r), .int (nI way)] h Q := by
  obtain ⟨d, rfl, he⟩ := dpos hd
  refine AM.of [some (.int (nI r)), some (.int (nI way)), none, none] pnX12 (Nat.le_of_ble_eq_true rfl) (by simp [lsub, lvI, Value.category]) ?_
  rcases (show (way = 0 ∧ r < 6) ∨ (way = 0 ∧ 6 ≤ r) ∨ (way = 1) ∨ (way = 2) ∨ (way = 3 ∧ r % 6 = 0) ∨ (way = 3 ∧ ¬ r % 6 = 0) by omega) with ⟨rfl, hc⟩ | ⟨rfl, hc⟩ | rfl | rfl | ⟨rfl, hc⟩ | ⟨rfl, hc⟩
  · refine a_iloadn_0 (pc := 0) dX12_beside_0 ?_
    refine a_bipush (pc := 1) (v := nI 6) dX12_beside_1 (by decide) ?_
    refine n_irem dX12_beside_3 (by omega) (by decide) (by decide) ?_
    refine a_iloadn_1 (pc := 4) dX12_beside_4 ?_
    refine a_iconst (pc := 5) (v := nI 1) dX12_beside_5 (by decide) ?_
    refine n_icmp_ne (tgt := 13) dX12_beside_6 (by decide) (by decide) (by decide) (fun c_6 => ?_) (fun c_6 => by omega)
    refine a_iloadn_1 (pc := 13) dX12_beside_13 ?_
    refine a_iconst (pc := 14) (v := nI 3) dX12_beside_14 (by decide) ?_
    refine n_icmp_ne (tgt := 22) dX12_beside_15 (by decide) (by decide) (by decide) (fun c_15 => ?_) (fun c_15 => by omega)
    refine a_iconst (pc := 22) (v := nI 0) dX12_beside_22 (by decide) ?_
    refine n_iadd dX12_beside_23 ?_
    refine a_istoren_2 (pc := 24) dX12_beside_24 (by decide) (by first | rfl | trivial) ?_
    refine a_iloadn_0 (pc := 25) dX12_beside_25 ?_
    refine a_bipush (pc := 26) (v := nI 6) dX12_beside_26 (by decide) ?_
    refine n_idiv dX12_beside_28 (by omega) (by decide) (by decide) ?_
    refine a_iloadn_1 (pc := 29) dX12_beside_29 ?_
    refine n_if_ne (tgt := 37) dX12_beside_30 (by decide) (by decide) (fun c_30 => by omega) (fun c_30 => ?_)
    refine a_iconst (pc := 33) (v := (-1)) dX12_beside_33 (by decide) ?_
    refine a_goto (pc := 34) (tgt := 47) dX12_beside_34 (by decide) ?_
    refine a_iadd (pc := 47) dX12_beside_47 ?_
    refine a_topi (-1) (by rw [show r / 6 = 0 by omega]; decide) ?_
    refine a_istoren_3 (pc := 48) dX12_beside_48 (by decide) (by first | rfl | trivial) ?_
    refine a_iloadn_2 (pc := 49) dX12_beside_49 ?_
    refine n_i2l dX12_beside_50 (by omega) ?_
    refine a_lconst (pc := 51) (v := 0) dX12_beside_51 (by decide) ?_
    refine a_ldc2 (pc := 52) dX12_beside_52 w_1133 ?_
    refine cs_X12_96 (pc := 55) rfl dX12_beside_55 (Nat.le_of_ble_eq_true rfl) ?_
    refine m_within (by omega) hz ?_
    refine b_if_eq (pc := 58) (tgt := 82) dX12_beside_58 (by decide) (fun cx => absurd cx (by rw [show (5 : Int64) = lN 5 from rfl, inL_lN (by decide) (by omega), decide_eq_true (by omega)]; decide)) (fun cx => ?_)
    refine a_iloadn_3 (pc := 61) dX12_beside_61 ?_
    refine a_i2l (pc := 62) dX12_beside_62 ?_
    refine a_topl (-1) (by decide) ?_
    refine a_lconst (pc := 63) (v := 0) dX12_beside_63 (by decide) ?_
    refine a_ldc2 (pc := 64) dX12_beside_64 w_1133 ?_
    refine cs_X12_96 (pc := 67) rfl dX12_beside_67 (Nat.le_of_ble_eq_true rfl) ?_
    refine m_within (by omega) hz ?_
    refine b_if_eq (pc := 70) (tgt := 82) dX12_beside_70 (by decide) (fun cy => ?_) (fun cy => absurd cy (by decide))
    refine a_iconst (pc := 82) (v := (-1)) dX12_beside_82 (by decide) ?_
    refine a_iret (pc := 83) dX12_beside_83 rfl (zf hz) ?_
    first | (rw [show bsd r 0 = none by unfold bsd; simp <;> omega] at k; exact k) | (rw [show bsd r 0 = some (6 * (0) + (r % 6)) by unfold bsd; simp <;> omega] at k; exact k)
  · refine a_iloadn_0 (pc := 0) dX12_beside_0 ?_
    refine a_bipush (pc := 1) (v := nI 6) dX12_beside_1 (by decide) ?_
    refine n_irem dX12_beside_3 (by omega) (by decide) (by decide) ?_
    refine a_iloadn_1 (pc := 4) dX12_beside_4 ?_
    refine a_iconst (pc := 5) (v := nI 1) dX12_beside_5 (by decide) ?_
    refine n_icmp_ne (tgt := 13) dX12_beside_6 (by decide) (by decide) (by decide) (fun c_6 => ?_) (fun c_6 => by omega)
    refine a_iloadn_1 (pc := 13) dX12_beside_13 ?_
    refine a_iconst (pc := 14) (v := nI 3) dX12_beside_14 (by decide) ?_
    refine n_icmp_ne (tgt := 22) dX12_beside_15 (by decide) (by decide) (by decide) (fun c_15 => ?_) (fun c_15 => by omega)
    refine a_iconst (pc := 22) (v := nI 0) dX12_beside_22 (by decide) ?_
    refine n_iadd dX12_beside_23 ?_
    refine a_istoren_2 (pc := 24) dX12_beside_24 (by decide) (by first | rfl | trivial) ?_
    refine a_iloadn_0 (pc := 25) dX12_beside_25 ?_
    refine a_bipush (pc := 26) (v := nI 6) dX12_beside_26 (by decide) ?_
    refine n_idiv dX12_beside_28 (by omega) (by decide) (by decide) ?_
    refine a_iloadn_1 (pc := 29) dX12_beside_29 ?_
    refine n_if_ne (tgt := 37) dX12_beside_30 (by decide) (by decide) (fun c_30 => by omega) (fun c_30 => ?_)
    refine a_iconst (pc := 33) (v := (-1)) dX12_beside_33 (by decide) ?_
    refine a_goto (pc := 34) (tgt := 47) dX12_beside_34 (by decide) ?_
    refine a_iadd (pc := 47) dX12_beside_47 ?_
    refine a_topi (nI (r / 6 - 1)) (nI_dec (by omega)) ?_
    refine a_istoren_3 (pc := 48) dX12_beside_48 (by decide) (by first | rfl | trivial) ?_
    refine a_iloadn_2 (pc := 49) dX12_beside_49 ?_
    refine n_i2l dX12_beside_50 (by omega) ?_
    refine a_lconst (pc := 51) (v := 0) dX12_beside_51 (by decide) ?_
    refine a_ldc2 (pc := 52) dX12_beside_52 w_1133 ?_
    refine cs_X12_96 (pc := 55) rfl dX12_beside_55 (Nat.le_of_ble_eq_true rfl) ?_
    refine m_within (by omega) hz ?_
    refine b_if_eq (pc := 58) (tgt := 82) dX12_beside_58 (by decide) (fun cx => absurd cx (by rw [show (5 : Int64) = lN 5 from rfl, inL_lN (by decide) (by omega), decide_eq_true (by omega)]; decide)) (fun cx => ?_)
    refine a_iloadn_3 (pc := 61) dX12_beside_61 ?_
    refine n_i2l dX12_beside_62 (by omega) ?_
    refine a_lconst (pc := 63) (v := 0) dX12_beside_63 (by decide) ?_
    refine a_ldc2 (pc := 64) dX12_beside_64 w_1133 ?_
    refine cs_X12_96 (pc := 67) rfl dX12_beside_67 (Nat.le_of_ble_eq_true rfl) ?_
    refine m_within (by omega) hz ?_
    refine b_if_eq (pc := 70) (tgt := 82) dX12_beside_70 (by decide) (fun cy => absurd cy (by rw [show (5 : Int64) = lN 5 from rfl, inL_lN (by decide) (by omega), decide_eq_true (by omega)]; decide)) (fun cy => ?_)
    refine a_bipush (pc := 73) (v := nI 6) dX12_beside_73 (by decide) ?_
    refine a_iloadn_3 (pc := 75) dX12_beside_75 ?_
    refine n_imul dX12_beside_76 ?_
    refine a_iloadn_2 (pc := 77) dX12_beside_77 ?_
    refine n_iadd dX12_beside_78 ?_
    refine a_goto (pc := 79) (tgt := 83) dX12_beside_79 (by decide) ?_
    refine a_iret (pc := 83) dX12_beside_83 rfl (zf hz) ?_
    first | (rw [show bsd r 0 = none by unfold bsd; simp <;> omega] at k; exact k) | (rw [show bsd r 0 = some (6 * (r / 6 - 1) + (r % 6)) by unfold bsd; simp <;> omega] at k; exact k)
  · refine a_iloadn_0 (pc := 0) dX12_beside_0 ?_
    refine a_bipush (pc := 1) (v := nI 6) dX12_beside_1 (by decide) ?_
    refine n_irem dX12_beside_3 (by omega) (by decide) (by decide) ?_
    refine a_iloadn_1 (pc := 4) dX12_beside_4 ?_
    refine a_iconst (pc := 5) (v := nI 1) dX12_beside_5 (by decide) ?_
    refine n_icmp_ne (tgt := 13) dX12_beside_6 (by decide) (by decide) (by decide) (fun c_6 => by omega) (fun c_6 => ?_)
    refine a_iconst (pc := 9) (v := nI 1) dX12_beside_9 (by decide) ?_
    refine a_goto (pc := 10) (tgt := 23) dX12_beside_10 (by decide) ?_
    refine n_iadd dX12_beside_23 ?_
    refine a_istoren_2 (pc := 24) dX12_beside_24 (by decide) (by first | rfl | trivial) ?_
    refine a_iloadn_0 (pc := 25) dX12_beside_25 ?_
    refine a_bipush (pc := 26) (v := nI 6) dX12_beside_26 (by decide) ?_
    refine n_idiv dX12_beside_28 (by omega) (by decide) (by decide) ?_
    refine a_iloadn_1 (pc := 29) dX12_beside_29 ?_
    refine n_if_ne (tgt := 37) dX12_beside_30 (by decide) (by decide) (fun c_30 => ?_) (fun c_30 => by omega)
    refine a_iloadn_1 (pc := 37) dX12_beside_37 ?_
    refine a_iconst (pc := 38) (v := nI 2) dX12_beside_38 (by decide) ?_
    refine n_icmp_ne (tgt := 46) dX12_beside_39 (by decide) (by decide) (by decide) (fun c_39 => ?_) (fun c_39 => by omega)
    refine a_iconst (pc := 46) (v := nI 0) dX12_beside_46 (by decide) ?_
    refine n_iadd dX12_beside_47 ?_
    refine a_istoren_3 (pc := 48) dX12_beside_48 (by decide) (by first | rfl | trivial) ?_
    refine a_iloadn_2 (pc := 49) dX12_beside_49 ?_
    refine n_i2l dX12_beside_50 (by omega) ?_
    refine a_lconst (pc := 51) (v := 0) dX12_beside_51 (by decide) ?_
    refine a_ldc2 (pc := 52) dX12_beside_52 w_1133 ?_
    refine cs_X12_96 (pc := 55) rfl dX12_beside_55 (Nat.le_of_ble_eq_true rfl) ?_
    refine m_within (by omega) hz ?_
    refine b_if_eq (pc := 58) (tgt := 82) dX12_beside_58 (by decide) (fun cx => ?_) (fun cx => ?_)
    · rw [show (5 : Int64) = lN 5 from rfl, inL_lN (by decide) (by omega), decide_eq_false_iff_not] at cx
      refine a_iconst (pc := 82) (v := (-1)) dX12_beside_82 (by decide) ?_
      refine a_iret (pc := 83) dX12_beside_83 rfl (zf hz) ?_
      first | (rw [show bsd r 1 = none by unfold bsd; simp <;> omega] at k; exact k) | (rw [show bsd r 1 = some (6 * (r / 6) + (r % 6 + 1)) by unfold bsd; simp <;> omega] at k; exact k)
    · rw [show (5 : Int64) = lN 5 from rfl, inL_lN (by decide) (by omega), decide_eq_true_iff] at cx
      refine a_iloadn_3 (pc := 61) dX12_beside_61 ?_
      refine n_i2l dX12_beside_62 (by omega) ?_
      refine a_lconst (pc := 63) (v := 0) dX12_beside_63 (by decide) ?_
      refine a_ldc2 (pc := 64) dX12_beside_64 w_1133 ?_
      refine cs_X12_96 (pc := 67) rfl dX12_beside_67 (Nat.le_of_ble_eq_true rfl) ?_
      refine m_within (by omega) hz ?_
      refine b_if_eq (pc := 70) (tgt := 82) dX12_beside_70 (by decide) (fun cy => absurd cy (by rw [show (5 : Int64) = lN 5 from rfl, inL_lN (by decide) (by omega), decide_eq_true (by omega)]; decide)) (fun cy => ?_)
      refine a_bipush (pc := 73) (v := nI 6) dX12_beside_73 (by decide) ?_
      refine a_iloadn_3 (pc := 75) dX12_beside_75 ?_
      refine n_imul dX12_beside_76 ?_
      refine a_iloadn_2 (pc := 77) dX12_beside_77 ?_
      refine n_iadd dX12_beside_78 ?_
      refine a_goto (pc := 79) (tgt := 83) dX12_beside_79 (by decide) ?_
      refine a_iret (pc := 83) dX12_beside_83 rfl (zf hz) ?_
      first | (rw [show bsd r 1 = none by unfold bsd; simp <;> omega] at k; exact k) | (rw [show bsd r 1 = some (6 * (r / 6) + (r % 6 + 1)) by unfold bsd; simp <;> omega] at k; exact k)
  · refine a_iloadn_0 (pc := 0) dX12_beside_0 ?_
    refine a_bipush (pc := 1) (v := nI 6) dX12_beside_1 (by decide) ?_
    refine n_irem dX12_beside_3 (by omega) (by decide) (by decide) ?_
    refine a_iloadn_1 (pc := 4) dX12_beside_4 ?_
    refine a_iconst (pc := 5) (v := nI 1) dX12_beside_5 (by decide) ?_
    refine n_icmp_ne (tgt := 13) dX12_beside_6 (by decide) (by decide) (by decide) (fun c_6 => ?_) (fun c_6 => by omega)
    refine a_iloadn_1 (pc := 13) dX12_beside_13 ?_
    refine a_iconst (pc := 14) (v := nI 3) dX12_beside_14 (by decide) ?_
    refine n_icmp_ne (tgt := 22) dX12_beside_15 (by decide) (by decide) (by decide) (fun c_15 => ?_) (fun c_15 => by omega)
    refine a_iconst (pc := 22) (v := nI 0) dX12_beside_22 (by decide) ?_
    refine n_iadd dX12_beside_23 ?_
    refine a_istoren_2 (pc := 24) dX12_beside_24 (by decide) (by first | rfl | trivial) ?_
    refine a_iloadn_0 (pc := 25) dX12_beside_25 ?_
    refine a_bipush (pc := 26) (v := nI 6) dX12_beside_26 (by decide) ?_
    refine n_idiv dX12_beside_28 (by omega) (by decide) (by decide) ?_
    refine a_iloadn_1 (pc := 29) dX12_beside_29 ?_
    refine n_if_ne (tgt := 37) dX12_beside_30 (by decide) (by decide) (fun c_30 => ?_) (fun c_30 => by omega)
    refine a_iloadn_1 (pc := 37) dX12_beside_37 ?_
    refine a_iconst (pc := 38) (v := nI 2) dX12_beside_38 (by decide) ?_
    refine n_icmp_ne (tgt := 46) dX12_beside_39 (by decide) (by decide) (by decide) (fun c_39 => by omega) (fun c_39 => ?_)
    refine a_iconst (pc := 42) (v := nI 1) dX12_beside_42 (by decide) ?_
    refine a_goto (pc := 43) (tgt := 47) dX12_beside_43 (by decide) ?_
    refine n_iadd dX12_beside_47 ?_
    refine a_istoren_3 (pc := 48) dX12_beside_48 (by decide) (by first | rfl | trivial) ?_
    refine a_iloadn_2 (pc := 49) dX12_beside_49 ?_
    refine n_i2l dX12_beside_50 (by omega) ?_
    refine a_lconst (pc := 51) (v := 0) dX12_beside_51 (by decide) ?_
    refine a_ldc2 (pc := 52) dX12_beside_52 w_1133 ?_
    refine cs_X12_96 (pc := 55) rfl dX12_beside_55 (Nat.le_of_ble_eq_true rfl) ?_
    refine m_within (by omega) hz ?_
    refine b_if_eq (pc := 58) (tgt := 82) dX12_beside_58 (by decide) (fun cx => absurd cx (by rw [show (5 : Int64) = lN 5 from rfl, inL_lN (by decide) (by omega), decide_eq_true (by omega)]; decide)) (fun cx => ?_)
    refine a_iloadn_3 (pc := 61) dX12_beside_61 ?_
    refine n_i2l dX12_beside_62 (by omega) ?_
    refine a_lconst (pc := 63) (v := 0) dX12_beside_63 (by decide) ?_
    refine a_ldc2 (pc := 64) dX12_beside_64 w_1133 ?_
    refine cs_X12_96 (pc := 67) rfl dX12_beside_67 (Nat.le_of_ble_eq_true rfl) ?_
    refine m_within (by omega) hz ?_
    refine b_if_eq (pc := 70) (tgt := 82) dX12_beside_70 (by decide) (fun cy => ?_) (fun cy => ?_)
    · rw [show (5 : Int64) = lN 5 from rfl, inL_lN (by decide) (by omega), decide_eq_false_iff_not] at cy
      refine a_iconst (pc := 82) (v := (-1)) dX12_beside_82 (by decide) ?_
      refine a_iret (pc := 83) dX12_beside_83 rfl (zf hz) ?_
      first | (rw [show bsd r 2 = none by unfold bsd; simp <;> omega] at k; exact k) | (rw [show bsd r 2 = some (6 * (r / 6 + 1) + (r % 6)) by unfold bsd; simp <;> omega] at k; exact k)
    · rw [show (5 : Int64) = lN 5 from rfl, inL_lN (by decide) (by omega), decide_eq_true_iff] at cy
      refine a_bipush (pc := 73) (v := nI 6) dX12_beside_73 (by decide) ?_
      refine a_iloadn_3 (pc := 75) dX12_beside_75 ?_
      refine n_imul dX12_beside_76 ?_
      refine a_iloadn_2 (pc := 77) dX12_beside_77 ?_
      refine n_iadd dX12_beside_78 ?_
      refine a_goto (pc := 79) (tgt := 83) dX12_beside_79 (by decide) ?_
      refine a_iret (pc := 83) dX12_beside_83 rfl (zf hz) ?_
      first | (rw [show bsd r 2 = none by unfold bsd; simp <;> omega] at k; exact k) | (rw [show bsd r 2 = some (6 * (r / 6 + 1) + (r % 6)) by unfold bsd; simp <;> omega] at k; exact k)
  · refine a_iloadn_0 (pc := 0) dX12_beside_0 ?_
    refine a_bipush (pc := 1) (v := nI 6) dX12_beside_1 (by decide) ?_
    refine n_irem dX12_beside_3 (by omega) (by decide) (by decide) ?_
    refine a_iloadn_1 (pc := 4) dX12_beside_4 ?_
    refine a_iconst (pc := 5) (v := nI 1) dX12_beside_5 (by decide) ?_
    refine n_icmp_ne (tgt := 13) dX12_beside_6 (by decide) (by decide) (by decide) (fun c_6 => ?_) (fun c_6 => by omega)
    refine a_iloadn_1 (pc := 13) dX12_beside_13 ?_
    refine a_iconst (pc := 14) (v := nI 3) dX12_beside_14 (by decide) ?_
    refine n_icmp_ne (tgt := 22) dX12_beside_15 (by decide) (by decide) (by decide) (fun c_15 => by omega) (fun c_15 => ?_)
    refine a_iconst (pc := 18) (v := (-1)) dX12_beside_18 (by decide) ?_
    refine a_goto (pc := 19) (tgt := 23) dX12_beside_19 (by decide) ?_
    refine a_iadd (pc := 23) dX12_beside_23 ?_
    refine a_topi (-1) (by rw [hc]; decide) ?_
    refine a_istoren_2 (pc := 24) dX12_beside_24 (by decide) (by first | rfl | trivial) ?_
    refine a_iloadn_0 (pc := 25) dX12_beside_25 ?_
    refine a_bipush (pc := 26) (v := nI 6) dX12_beside_26 (by decide) ?_
    refine n_idiv dX12_beside_28 (by omega) (by decide) (by decide) ?_
    refine a_iloadn_1 (pc := 29) dX12_beside_29 ?_
    refine n_if_ne (tgt := 37) dX12_beside_30 (by decide) (by decide) (fun c_30 => ?_) (fun c_30 => by omega)
    refine a_iloadn_1 (pc := 37) dX12_beside_37 ?_
    refine a_iconst (pc := 38) (v := nI 2) dX12_beside_38 (by decide) ?_
    refine n_icmp_ne (tgt := 46) dX12_beside_39 (by decide) (by decide) (by decide) (fun c_39 => ?_) (fun c_39 => by omega)
    refine a_iconst (pc := 46) (v := nI 0) dX12_beside_46 (by decide) ?_
    refine n_iadd dX12_beside_47 ?_
    refine a_istoren_3 (pc := 48) dX12_beside_48 (by decide) (by first | rfl | trivial) ?_
    refine a_iloadn_2 (pc := 49) dX12_beside_49 ?_
    refine a_i2l (pc := 50) dX12_beside_50 ?_
    refine a_topl (-1) (by decide) ?_
    refine a_lconst (pc := 51) (v := 0) dX12_beside_51 (by decide) ?_
    refine a_ldc2 (pc := 52) dX12_beside_52 w_1133 ?_
    refine cs_X12_96 (pc := 55) rfl dX12_beside_55 (Nat.le_of_ble_eq_true rfl) ?_
    refine m_within (by omega) hz ?_
    refine b_if_eq (pc := 58) (tgt := 82) dX12_beside_58 (by decide) (fun cx => ?_) (fun cx => absurd cx (by decide))
    refine a_iconst (pc := 82) (v := (-1)) dX12_beside_82 (by decide) ?_
    refine a_iret (pc := 83) dX12_beside_83 rfl (zf hz) ?_
    first | (rw [show bsd r 3 = none by unfold bsd; simp <;> omega] at k; exact k) | (rw [show bsd r 3 = some (6 * (r / 6) + (0)) by unfold bsd; simp <;> omega] at k; exact k)
  · refine a_iloadn_0 (pc := 0) dX12_beside_0 ?_
    refine a_bipush (pc := 1) (v := nI 6) dX12_beside_1 (by decide) ?_
    refine n_irem dX12_beside_3 (by omega) (by decide) (by decide) ?_
    refine a_iloadn_1 (pc := 4) dX12_beside_4 ?_
    refine a_iconst (pc := 5) (v := nI 1) dX12_beside_5 (by decide) ?_
    refine n_icmp_ne (tgt := 13) dX12_beside_6 (by decide) (by decide) (by decide) (fun c_6 => ?_) (fun c_6 => by omega)
    refine a_iloadn_1 (pc := 13) dX12_beside_13 ?_
    refine a_iconst (pc := 14) (v := nI 3) dX12_beside_14 (by decide) ?_
    refine n_icmp_ne (tgt := 22) dX12_beside_15 (by decide) (by decide) (by decide) (fun c_15 => by omega) (fun c_15 => ?_)
    refine a_iconst (pc := 18) (v := (-1)) dX12_beside_18 (by decide) ?_
    refine a_goto (pc := 19) (tgt := 23) dX12_beside_19 (by decide) ?_
    refine a_iadd (pc := 23) dX12_beside_23 ?_
    refine a_topi (nI (r % 6 - 1)) (nI_dec (by omega)) ?_
    refine a_istoren_2 (pc := 24) dX12_beside_24 (by decide) (by first | rfl | trivial) ?_
    refine a_iloadn_0 (pc := 25) dX12_beside_25 ?_
    refine a_bipush (pc := 26) (v := nI 6) dX12_beside_26 (by decide) ?_
    refine n_idiv dX12_beside_28 (by omega) (by decide) (by decide) ?_
    refine a_iloadn_1 (pc := 29) dX12_beside_29 ?_
    refine n_if_ne (tgt := 37) dX12_beside_30 (by decide) (by decide) (fun c_30 => ?_) (fun c_30 => by omega)
    refine a_iloadn_1 (pc := 37) dX12_beside_37 ?_
    refine a_iconst (pc := 38) (v := nI 2) dX12_beside_38 (by decide) ?_
    refine n_icmp_ne (tgt := 46) dX12_beside_39 (by decide) (by decide) (by decide) (fun c_39 => ?_) (fun c_39 => by omega)
    refine a_iconst (pc := 46) (v := nI 0) dX12_beside_46 (by decide) ?_
    refine n_iadd dX12_beside_47 ?_
    refine a_istoren_3 (pc := 48) dX12_beside_48 (by decide) (by first | rfl | trivial) ?_
    refine a_iloadn_2 (pc := 49) dX12_beside_49 ?_
    refine n_i2l dX12_beside_50 (by omega) ?_
    refine a_lconst (pc := 51) (v := 0) dX12_beside_51 (by decide) ?_
    refine a_ldc2 (pc := 52) dX12_beside_52 w_1133 ?_
    refine cs_X12_96 (pc := 55) rfl dX12_beside_55 (Nat.le_of_ble_eq_true rfl) ?_
    refine m_within (by omega) hz ?_
    refine b_if_eq (pc := 58) (tgt := 82) dX12_beside_58 (by decide) (fun cx => absurd cx (by rw [show (5 : Int64) = lN 5 from rfl, inL_lN (by decide) (by omega), decide_eq_true (by omega)]; decide)) (fun cx => ?_)
    refine a_iloadn_3 (pc := 61) dX12_beside_61 ?_
    refine n_i2l dX12_beside_62 (by omega) ?_
    refine a_lconst (pc := 63) (v := 0) dX12_beside_63 (by decide) ?_
    refine a_ldc2 (pc := 64) dX12_beside_64 w_1133 ?_
    refine cs_X12_96 (pc := 67) rfl dX12_beside_67 (Nat.le_of_ble_eq_true rfl) ?_
    refine m_within (by omega) hz ?_
    refine b_if_eq (pc := 70) (tgt := 82) dX12_beside_70 (by decide) (fun cy => absurd cy (by rw [show (5 : Int64) = lN 5 from rfl, inL_lN (by decide) (by omega), decide_eq_true (by omega)]; decide)) (fun cy => ?_)
    refine a_bipush (pc := 73) (v := nI 6) dX12_beside_73 (by decide) ?_
    refine a_iloadn_3 (pc := 75) dX12_beside_75 ?_
    refine n_imul dX12_beside_76 ?_
    refine a_iloadn_2 (pc := 77) dX12_beside_77 ?_
    refine n_iadd dX12_beside_78 ?_
    refine a_goto (pc := 79) (tgt := 83) dX12_beside_79 (by decide) ?_
    refine a_iret (pc := 83) dX12_beside_83 rfl (zf hz) ?_
    first | (rw [show bsd r 3 = none by unfold bsd; simp <;> omega] at k; exact k) | (rw [show bsd r 3 = some (6 * (r / 6) + (r % 6 - 1)) by unfold bsd; simp <;> omega] at k; exact k)
set_option maxRecDepth 100000 in
set_option maxHeartbeats 4000000 in
theorem m_isLit {G : Cx} {d : Nat} {h h0 : List va_E} {b : MB} {p : MP} {t : MT} {o : MO} {Q : Option Value → List va_E → Prop} (hd : 1 ≤ d) (hz : gz G = false) (hm : MS G h0 h (b, p, t, o)) {v : Cv} (hv : HV (b, p, t, o) v) (okv : okC v) {r : Nat} (hr : r < 36) (k : Q (some (.int (bI (clit v r)))) h) : AM G yX12_isLit cX12_isLit 2 (some .boolean) d 0 0 [.ref (gB G + 80), .int (nI (r))] h Q := by
  obtain ⟨d, rfl, he⟩ := dpos hd
  refine AM.of [some (.ref (gB G + 80)), some (.int (nI (r)))] pnX12 (Nat.le_of_ble_eq_true rfl) (by simp [lsub, lvI, Value.category]) ?_
  refine a_aloadn_0 (pc := 0) dX12_isLit_0 ?_
  refine mg_31 hm rfl dX12_isLit_1 ?_
  refine a_iloadn_1 (pc := 4) dX12_isLit_4 ?_
  have b1 := okv.1 r
  refine ml_wax (x := cW v r) hm dX12_isLit_5 (by omega) (hv.1 r (by omega)).1 ?_
  refine n_if_le (tgt := 22) dX12_isLit_6 (by decide) (by omega) (fun c_6 => ?_) (fun c_6 => ?_)
  · refine a_iconst (pc := 22) (v := nI 0) dX12_isLit_22 (by decide) ?_
    refine a_zret (pc := 23) dX12_isLit_23 rfl (by first | rfl | exact bI_nar _ | decide) (zf hz) ?_
    first | (rw [show clit v r = true by simp [clit, wx, *]] at k; exact k) | (rw [show clit v r = false by simp [clit, wx, *]] at k; exact k)
  · refine a_aloadn_0 (pc := 9) dX12_isLit_9 ?_
    refine mg_34 hm rfl dX12_isLit_10 ?_
    refine a_iloadn_1 (pc := 13) dX12_isLit_13 ?_
    refine ml_isDark (x := (cK v r).toNat) hm dX12_isLit_14 (by omega) (hv.1 r (by omega)).2.1 ?_
    refine a_topi (bI (cK v r)) (bI_nI _).symm ?_
    refine b_if_ne (pc := 15) (tgt := 22) dX12_isLit_15 (by decide) (fun c_15 => ?_) (fun c_15 => ?_)
    · refine a_iconst (pc := 22) (v := nI 0) dX12_isLit_22 (by decide) ?_
      refine a_zret (pc := 23) dX12_isLit_23 rfl (by first | rfl | exact bI_nar _ | decide) (zf hz) ?_
      first | (rw [show clit v r = true by simp [clit, wx, *]] at k; exact k) | (rw [show clit v r = false by simp [clit, wx, *]] at k; exact k)
    · refine a_iconst (pc := 18) (v := nI 1) dX12_isLit_18 (by decide) ?_
      refine a_goto (pc := 19) (tgt := 23) dX12_isLit_19 (by decide) ?_
      refine a_zret (pc := 23) dX12_isLit_23 rfl (by first | rfl | exact bI_nar _ | decide) (zf hz) ?_
      first | (rw [show clit v r = true by simp [clit, wx, *]] at k; exact k) | (rw [show clit v r = false by simp [clit, wx, *]] at k; exact k)
set_option maxRecDepth 100000 in
set_option maxHeartbeats 4000000 in
theorem m_darkBeside {G : Cx} {d : Nat} {h h0 : List va_E} {b : MB} {p : MP} {t : MT} {o : MO} {Q : Option Value → List va_E → Prop} (hd : 4 ≤ d) (hz : gz G = false) (hm : MS G h0 h (b, p, t, o)) {v : Cv} (hv : HV (b, p, t, o) v) (okv : okC v) {r : Nat} (hr : r < 36) (k : Q (some (.int (nI (dB (cK v) r)))) h) : AM G yX12_darkBeside cX12_darkBeside 5 (some .int) d 0 0 [.ref (gB G + 80), .int (nI (r))] h Q := by
  obtain ⟨d, rfl, he⟩ := dpos hd
  have lp : ∀ (n i : Nat), 4 - i < n → i ≤ 4 → AW G yX12_darkBeside cX12_darkBeside 5 (some .int) (rmx (d + 1) 0 0) (ZQ G 0 0 (h.length + 0) Q) 0 0 4 [some (.ref (gB G + 80)), some (.int (nI (r))), some (.int (nI (sumW (dW (cK v) r) i))), some (.int (nI (i))), none] [] h := by
    intro n
    induction n with
    | zero => intro i hn; exact absurd hn (Nat.not_lt_zero _)
    | succ n ih =>
      intro i hn hi4
      refine a_iloadn_3 (pc := 4) dX12_darkBeside_4 ?_
      refine a_iconst (pc := 5) (v := nI 4) dX12_darkBeside_5 (by decide) ?_
      refine n_icmp_ge (tgt := 41) dX12_darkBeside_6 (by decide) (by omega) (by decide) (fun hi => ?_) (fun hi => ?_)
      · rw [show i = 4 by omega, sumW_4, ← dB_ways _ hr]
        refine a_iloadn_2 (pc := 41) dX12_darkBeside_41 ?_
        exact a_iret (pc := 42) dX12_darkBeside_42 rfl (zf hz) k
      · have bs : sumW (dW (cK v) r) i ≤ 1 * i := sumW_le (fun w => dW_le _ _ w) i
        refine a_iloadn_1 (pc := 9) dX12_darkBeside_9 ?_
        refine a_iloadn_3 (pc := 10) dX12_darkBeside_10 ?_
        refine cs_X12_193 (pc := 11) rfl dX12_darkBeside_11 (Nat.le_of_ble_eq_true rfl) ?_
        refine m_beside (by omega) hz (by omega) (by omega) ?_
        obtain ⟨ob, hob⟩ : ∃ x, bsd r i = x := ⟨_, rfl⟩
        rw [hob]
        cases ob with
        | none =>
          refine a_istore_4 (pc := 14) dX12_darkBeside_14 (by decide) (by first | rfl | trivial) ?_
          refine a_iloadn_2 (pc := 16) dX12_darkBeside_16 ?_
          refine a_iload_4 (pc := 17) dX12_darkBeside_17 ?_
          refine a_if_ge (pc := 19) (tgt := 26) dX12_darkBeside_19 (by decide) (fun c_19 => absurd c_19 (by decide)) (fun c_19 => ?_)
          refine a_iconst (pc := 22) (v := nI 1) dX12_darkBeside_22 (by decide) ?_
          refine a_goto (pc := 23) (tgt := 33) dX12_darkBeside_23 (by decide) ?_
          refine n_iadd dX12_darkBeside_33 ?_
          refine a_topi (nI (sumW (dW (cK v) r) (i + 1))) (by rw [sumW, show dW (cK v) r i = 1 from by unfold dW; rw [hob]]) ?_
          refine a_istoren_2 (pc := 34) dX12_darkBeside_34 (by decide) (by first | rfl | trivial) ?_
          refine a_iinc_3 (pc := 35) (v := nI (i + 1)) dX12_darkBeside_35 (nI_add _ _) (by decide) (by first | rfl | trivial) ?_
          refine a_goto (pc := 38) (tgt := 4) dX12_darkBeside_38 (by decide) ?_
          refine a_ls (ls' := [some _, some _, some _, some _, none, none]) ⟨rfl, rfl, rfl, rfl, trivial⟩ ?_
          exact ih (i + 1) (by omega) (by omega)
        | some o9 =>
          have ho9 := bsd_lt hr hob
          refine a_topi (nI o9) rfl ?_
          refine a_istore_4 (pc := 14) dX12_darkBeside_14 (by decide) (by first | rfl | trivial) ?_
          refine a_iloadn_2 (pc := 16) dX12_darkBeside_16 ?_
          refine a_iload_4 (pc := 17) dX12_darkBeside_17 ?_
          refine n_if_ge (tgt := 26) dX12_darkBeside_19 (by decide) (by omega) ?_
          refine a_aloadn_0 (pc := 26) dX12_darkBeside_26 ?_
          refine mg_34 hm rfl dX12_darkBeside_27 ?_
          refine a_iload_4 (pc := 30) dX12_darkBeside_30 ?_
          refine ml_isDark (x := (cK v o9).toNat) hm dX12_darkBeside_32 (by omega) (hv.1 o9 (by omega)).2.1 ?_
          refine n_iadd dX12_darkBeside_33 ?_
          refine a_topi (nI (sumW (dW (cK v) r) (i + 1))) (by rw [sumW, show dW (cK v) r i = (cK v o9).toNat from by unfold dW; rw [hob]]) ?_
          refine a_istoren_2 (pc := 34) dX12_darkBeside_34 (by decide) (by first | rfl | trivial) ?_
          refine a_iinc_3 (pc := 35) (v := nI (i + 1)) dX12_darkBeside_35 (nI_add _ _) (by decide) (by first | rfl | trivial) ?_
          refine a_goto (pc := 38) (tgt := 4) dX12_darkBeside_38 (by decide) ?_
          refine a_ls (ls' := [some _, some _, some _, some _, none, none]) ⟨rfl, rfl, rfl, rfl, trivial⟩ ?_
          exact ih (i + 1) (by omega) (by omega)
  refine AM.of [some (.ref (gB G + 80)), some (.int (nI (r))), none, none, none] pnX12 (Nat.le_of_ble_eq_true rfl) (by simp [lsub, lvI, Value.category]) ?_
  refine a_iconst (pc := 0) (v := nI 0) dX12_darkBeside_0 (by decide) ?_
  refine a_istoren_2 (pc := 1) dX12_darkBeside_1 (by decide) (by first | rfl | trivial) ?_
  refine a_iconst (pc := 2) (v := nI 0) dX12_darkBeside_2 (by decide) ?_
  refine a_istoren_3 (pc := 3) dX12_darkBeside_3 (by decide) (by first | rfl | trivial) ?_
  exact lp 5 0 (by omega) (by omega)
set_option maxRecDepth 100000 in
set_option maxHeartbeats 4000000 in
theorem m_litBeside {G : Cx} {d : Nat} {h h0 : List va_E} {b : MB} {p : MP} {t : MT} {o : MO} {Q : Option Value → List va_E → Prop} (hd : 4 ≤ d) (hz : gz G = false) (hm : MS G h0 h (b, p, t, o)) {v : Cv} (hv : HV (b, p, t, o) v) (okv : okC v) {r : Nat} (hr : r < 36) (k : Q (some (.int (nI (lB (clit v) r)))) h) : AM G yX12_litBeside cX12_litBeside 5 (some .int) d 0 0 [.ref (gB G + 80), .int (nI (r))] h Q := by
  obtain ⟨d, rfl, he⟩ := dpos hd
  have lp : ∀ (n i : Nat), 4 - i < n → i ≤ 4 → AW G yX12_litBeside cX12_litBeside 5 (some .int) (rmx (d + 1) 0 0) (ZQ G 0 0 (h.length + 0) Q) 0 0 4 [some (.ref (gB G + 80)), some (.int (nI (r))), some (.int (nI (sumW (lW (clit v) r) i))), some (.int (nI (i))), none] [] h := by
    intro n
    induction n with
    | zero => intro i hn; exact absurd hn (Nat.not_lt_zero _)
    | succ n ih =>
      intro i hn hi4
      refine a_iloadn_3 (pc := 4) dX12_litBeside_4 ?_
      refine a_iconst (pc := 5) (v := nI 4) dX12_litBeside_5 (by decide) ?_
      refine n_icmp_ge (tgt := 44) dX12_litBeside_6 (by decide) (by omega) (by decide) (fun hi => ?_) (fun hi => ?_)
      · rw [show i = 4 by omega, sumW_4, ← lB_ways _ hr]
        refine a_iloadn_2 (pc := 44) dX12_litBeside_44 ?_
        exact a_iret (pc := 45) dX12_litBeside_45 rfl (zf hz) k
      · have bs : sumW (lW (clit v) r) i ≤ 1 * i := sumW_le (fun w => lW_le _ _ w) i
        refine a_iloadn_1 (pc := 9) dX12_litBeside_9 ?_
        refine a_iloadn_3 (pc := 10) dX12_litBeside_10 ?_
        refine cs_X12_193 (pc := 11) rfl dX12_litBeside_11 (Nat.le_of_ble_eq_true rfl) ?_
        refine m_beside (by omega) hz (by omega) (by omega) ?_
        obtain ⟨ob, hob⟩ : ∃ x, bsd r i = x := ⟨_, rfl⟩
        rw [hob]
        cases ob with
        | none =>
          refine a_istore_4 (pc := 14) dX12_litBeside_14 (by decide) (by first | rfl | trivial) ?_
          refine a_iloadn_2 (pc := 16) dX12_litBeside_16 ?_
          refine a_iload_4 (pc := 17) dX12_litBeside_17 ?_
          refine a_if_lt (pc := 19) (tgt := 35) dX12_litBeside_19 (by decide) (fun c_19 => ?_) (fun c_19 => absurd (show oI none < 0 by decide) c_19)
          refine a_iconst (pc := 35) (v := nI 0) dX12_litBeside_35 (by decide) ?_
          refine n_iadd dX12_litBeside_36 ?_
          refine a_topi (nI (sumW (lW (clit v) r) (i + 1))) (by rw [sumW, show lW (clit v) r i = 0 from by unfold lW; rw [hob]]) ?_
          refine a_istoren_2 (pc := 37) dX12_litBeside_37 (by decide) (by first | rfl | trivial) ?_
          refine a_iinc_3 (pc := 38) (v := nI (i + 1)) dX12_litBeside_38 (nI_add _ _) (by decide) (by first | rfl | trivial) ?_
          refine a_goto (pc := 41) (tgt := 4) dX12_litBeside_41 (by decide) ?_
          refine a_ls (ls' := [some _, some _, some _, some _, none, none]) ⟨rfl, rfl, rfl, rfl, trivial⟩ ?_
          exact ih (i + 1) (by omega) (by omega)
        | some o9 =>
          have ho9 := bsd_lt hr hob
          refine a_topi (nI o9) rfl ?_
          refine a_istore_4 (pc := 14) dX12_litBeside_14 (by decide) (by first | rfl | trivial) ?_
          refine a_iloadn_2 (pc := 16) dX12_litBeside_16 ?_
          refine a_iload_4 (pc := 17) dX12_litBeside_17 ?_
          refine n_if_lt (tgt := 35) dX12_litBeside_19 (by decide) (by omega) ?_
          refine a_aloadn_0 (pc := 22) dX12_litBeside_22 ?_
          refine a_iload_4 (pc := 23) dX12_litBeside_23 ?_
          refine cv_X12_196 (pc := 25) rfl dX12_litBeside_25 hm.2.2.1 (Nat.le_of_ble_eq_true rfl) ?_
          refine m_isLit (by omega) hz hm hv okv (by omega) ?_
          refine b_if_eq (pc := 28) (tgt := 35) dX12_litBeside_28 (by decide) (fun cl => ?_) (fun cl => ?_)
          · refine a_iconst (pc := 35) (v := nI 0) dX12_litBeside_35 (by decide) ?_
            refine n_iadd dX12_litBeside_36 ?_
            refine a_topi (nI (sumW (lW (clit v) r) (i + 1))) (by rw [sumW, show lW (clit v) r i = (clit v o9).toNat from by unfold lW; rw [hob]]; rw [cl]; rfl) ?_
            refine a_istoren_2 (pc := 37) dX12_litBeside_37 (by decide) (by first | rfl | trivial) ?_
            refine a_iinc_3 (pc := 38) (v := nI (i + 1)) dX12_litBeside_38 (nI_add _ _) (by decide) (by first | rfl | trivial) ?_
            refine a_goto (pc := 41) (tgt := 4) dX12_litBeside_41 (by decide) ?_
            refine a_ls (ls' := [some _, some _, some _, some _, none, none]) ⟨rfl, rfl, rfl, rfl, trivial⟩ ?_
            exact ih (i + 1) (by omega) (by omega)
          · refine a_iconst (pc := 31) (v := nI 1) dX12_litBeside_31 (by decide) ?_
            refine a_goto (pc := 32) (tgt := 36) dX12_litBeside_32 (by decide) ?_
            refine n_iadd dX12_litBeside_36 ?_
            refine a_topi (nI (sumW (lW (clit v) r) (i + 1))) (by rw [sumW, show lW (clit v) r i = (clit v o9).toNat from by unfold lW; rw [hob]]; rw [cl]; rfl) ?_
            refine a_istoren_2 (pc := 37) dX12_litBeside_37 (by decide) (by first | rfl | trivial) ?_
            refine a_iinc_3 (pc := 38) (v := nI (i + 1)) dX12_litBeside_38 (nI_add _ _) (by decide) (by first | rfl | trivial) ?_
            refine a_goto (pc := 41) (tgt := 4) dX12_litBeside_41 (by decide) ?_
            refine a_ls (ls' := [some _, some _, some _, some _, none, none]) ⟨rfl, rfl, rfl, rfl, trivial⟩ ?_
            exact ih (i + 1) (by omega) (by omega)
  refine AM.of [some (.ref (gB G + 80)), some (.int (nI (r))), none, none, none] pnX12 (Nat.le_of_ble_eq_true rfl) (by simp [lsub, lvI, Value.category]) ?_
  refine a_iconst (pc := 0) (v := nI 0) dX12_litBeside_0 (by decide) ?_
  refine a_istoren_2 (pc := 1) dX12_litBeside_1 (by decide) (by first | rfl | trivial) ?_
  refine a_iconst (pc := 2) (v := nI 0) dX12_litBeside_2 (by decide) ?_
  refine a_istoren_3 (pc := 3) dX12_litBeside_3 (by decide) (by first | rfl | trivial) ?_
  exact lp 5 0 (by omega) (by omega)
set_option maxRecDepth 100000 in
set_option maxHeartbeats 4000000 in
theorem m_begins {G : Cx} {d : Nat} {h h0 : List va_E} {b : MB} {p : MP} {t : MT} {o : MO} {Q : Option Value → List va_E → Prop} (hd : 1 ≤ d) (hz : gz G = false) (hm : MS G h0 h (b, p, t, o)) {v : Cv} (hb : BV (b, p, t, o) v) (k : ∀ h1 t1, MS G h0 h1 (b, p, t1, o) → HV (b, p, t1, o) v → Q none h1) : AM G yX12_begins cX12_begins 2 none d 0 0 [.ref (gB G + 80)] h Q := by
  obtain ⟨d, rfl, he⟩ := dpos hd
  have lp : ∀ (n : Nat) (i : Nat) (h1 : List va_E) (w1 d1 : Nat → Nat), 36 - i < n → (i ≤ 36) → (MS G h0 h1 (sIsDark (sWax (b, p, t, o) w1) d1)) → (∀ r, r < i → w1 r = mMay (b, p, t, o) r) → (∀ r, r < i → d1 r = mMay (b, p, t, o) (108 + r)) → AW G yX12_begins cX12_begins 2 none (rmx (d + 1) 0 0) (ZQ G 0 0 (h.length + 0) Q) 0 0 2 [some (.ref (gB G + 80)), some (.int (nI (i)))] [] h1 := by
    intro n
    induction n with
    | zero => intro i h1 w1 d1 hn; exact absurd hn (Nat.not_lt_zero _)
    | succ n ih =>
      intro i h1 w1 d1 hn hi36 hm1 hw1 hd1
      refine a_iloadn_1 (pc := 2) dX12_begins_2 ?_
      refine a_bipush (pc := 3) (v := nI 36) dX12_begins_3 (by decide) ?_
      refine n_icmp_ge (tgt := 41) dX12_begins_5 (by decide) (by omega) (by decide) (fun c_5 => ?_) (fun c_5 => ?_)
      · refine a_aloadn_0 (pc := 41) dX12_begins_41 ?_
        refine a_aloadn_0 (pc := 42) dX12_begins_42 ?_
        refine mg_9 hm1 rfl dX12_begins_43 ?_
        refine a_sipush (pc := 46) (v := nI 146) dX12_begins_46 (by decide) ?_
        refine ml_may (x := mMay ((b, p, t, o)) 146) hm1 dX12_begins_49 (by decide) rfl ?_
        refine mp_188 (x := mMay ((b, p, t, o)) 146) hm1 rfl dX12_begins_50 (fun h4 hm4 => ?_)
        exact a_vret (pc := 53) dX12_begins_53 rfl (zf hz) (k _ _ hm4 ⟨fun r hr => ⟨(hw1 r (by omega)).trans (hb.1 r hr).1, (hd1 r (by omega)).trans (hb.1 r hr).2.1, (hb.1 r hr).2.2⟩, hb.2.1, hb.2.2.1, hb.2.2.2⟩)
      · refine a_aloadn_0 (pc := 8) dX12_begins_8 ?_
        refine mg_31 hm1 rfl dX12_begins_9 ?_
        refine a_iloadn_1 (pc := 12) dX12_begins_12 ?_
        refine a_aloadn_0 (pc := 13) dX12_begins_13 ?_
        refine mg_9 hm1 rfl dX12_begins_14 ?_
        refine a_iloadn_1 (pc := 17) dX12_begins_17 ?_
        refine ml_may (x := mMay ((b, p, t, o)) i) hm1 dX12_begins_18 (by omega) rfl ?_
        refine ms_wax (j := i) (x := mMay ((b, p, t, o)) i) hm1 dX12_begins_19 (by omega) (fun h4 hm4 => ?_)
        refine a_aloadn_0 (pc := 20) dX12_begins_20 ?_
        refine mg_34 hm4 rfl dX12_begins_21 ?_
        refine a_iloadn_1 (pc := 24) dX12_begins_24 ?_
        refine a_aloadn_0 (pc := 25) dX12_begins_25 ?_
        refine mg_9 hm4 rfl dX12_begins_26 ?_
        refine a_bipush (pc := 29) (v := nI 108) dX12_begins_29 (by decide) ?_
        refine a_iloadn_1 (pc := 31) dX12_begins_31 ?_
        refine n_iadd dX12_begins_32 ?_
        refine ml_may (x := mMay ((b, p, t, o)) (108 + i)) hm4 dX12_begins_33 (by omega) rfl ?_
        refine ms_isDark (j := i) (x := mMay ((b, p, t, o)) (108 + i)) hm4 dX12_begins_34 (by omega) (fun h5 hm5 => ?_)
        refine a_iinc_1 (pc := 35) (v := nI (i + 1)) dX12_begins_35 (nI_add _ _) (by decide) (by first | rfl | trivial) ?_
        refine a_goto (pc := 38) (tgt := 2) dX12_begins_38 (by decide) ?_
        exact ih (i + 1) _ _ _ (by omega) (by omega) hm5 (va_up_lt hw1 rfl) (va_up_lt hd1 rfl)
  refine AM.of [some (.ref (gB G + 80)), none] pnX12 (Nat.le_of_ble_eq_true rfl) (by simp [lsub, lvI, Value.category]) ?_
  refine a_iconst (pc := 0) (v := nI 0) dX12_begins_0 (by decide) ?_
  refine a_istoren_1 (pc := 1) dX12_begins_1 (by decide) (by first | rfl | trivial) ?_
  exact lp 37 0 h (mWax (b, p, t, o)) (mIsDark (b, p, t, o)) (by omega) (by omega) hm (fun r q => absurd q (Nat.not_lt_zero r)) (fun r q => absurd q (Nat.not_lt_zero r))
theorem ctn_bL_or {f : Nat → Bool} {i : Nat} (hi : i < 36) : bL (fun r => decide (r < i) && f r) ||| ((bI (f i)).toInt64 <<< ((nI i).toInt64 &&& 63)) = bL (fun r => decide (r < i + 1) && f r) := by
  cases hf : f i with
  | false =>
    have e : (bI false).toInt64 <<< ((nI i).toInt64 &&& 63) = bL (fun _ => false) := by
      rw [show (bI false).toInt64 = (0 : Int64) by decide, bL_0]
      apply tb_ext
      intro j _
      rw [tb_shl (by omega), tb_0, tb_0]; simp
    rw [e, bL_or, stp f i, hf]
    simp
  | true =>
    have e : (bI true).toInt64 <<< ((nI i).toInt64 &&& 63) = bL (fun j => decide (j = i)) := by
      rw [show (bI true).toInt64 = (1 : Int64) by decide]
      exact bL_bit hi
    rw [e, bL_or, stp f i, hf]
    simp
set_option maxRecDepth 100000 in
set_option maxHeartbeats 4000000 in
theorem m_darkMany {G : Cx} {d : Nat} {h h0 : List va_E} {b : MB} {p : MP} {t : MT} {o : MO} {Q : Option Value → List va_E → Prop} (hd : 1 ≤ d) (hz : gz G = false) (hm : MS G h0 h (b, p, t, o)) {v : Cv} (hv : HV (b, p, t, o) v) (k : Q (some (.int (nI (ctn (cK v) 36)))) h) : AM G yX12_darkMany cX12_darkMany 3 (some .int) d 0 0 [.ref (gB G + 80)] h Q := by
  obtain ⟨d, rfl, he⟩ := dpos hd
  have lp : ∀ (n : Nat) (i : Nat), 36 - i < n → (i ≤ 36) → AW G yX12_darkMany cX12_darkMany 3 (some .int) (rmx (d + 1) 0 0) (ZQ G 0 0 (h.length + 0) Q) 0 0 4 [some (.ref (gB G + 80)), some (.int (nI (ctn (cK v) i))), some (.int (nI (i)))] [] h := by
    intro n
    induction n with
    | zero => intro i hn; exact absurd hn (Nat.not_lt_zero _)
    | succ n ih =>
      intro i hn hi36
      refine a_iloadn_2 (pc := 4) dX12_darkMany_4 ?_
      refine a_bipush (pc := 5) (v := nI 36) dX12_darkMany_5 (by decide) ?_
      refine n_icmp_ge (tgt := 25) dX12_darkMany_7 (by decide) (by omega) (by decide) (fun c_7 => ?_) (fun c_7 => ?_)
      · obtain rfl : i = 36 := by omega
        refine a_iloadn_1 (pc := 25) dX12_darkMany_25 ?_
        exact a_iret (pc := 26) dX12_darkMany_26 rfl (zf hz) k
      · refine a_iloadn_1 (pc := 10) dX12_darkMany_10 ?_
        refine a_aloadn_0 (pc := 11) dX12_darkMany_11 ?_
        refine mg_34 hm rfl dX12_darkMany_12 ?_
        refine a_iloadn_2 (pc := 15) dX12_darkMany_15 ?_
        refine ml_isDark (x := (cK v i).toNat) hm dX12_darkMany_16 (by omega) (hv.1 i (by omega)).2.1 ?_
        refine n_iadd dX12_darkMany_17 ?_
        refine a_topi (nI (ctn (cK v) (i + 1))) (by rw [ctn]) ?_
        refine a_istoren_1 (pc := 18) dX12_darkMany_18 (by decide) (by first | rfl | trivial) ?_
        refine a_iinc_2 (pc := 19) (v := nI (i + 1)) dX12_darkMany_19 (nI_add _ _) (by decide) (by first | rfl | trivial) ?_
        refine a_goto (pc := 22) (tgt := 4) dX12_darkMany_22 (by decide) ?_
        exact ih (i + 1) (by omega) (by omega)
  refine AM.of [some (.ref (gB G + 80)), none, none] pnX12 (Nat.le_of_ble_eq_true rfl) (by simp [lsub, lvI, Value.category]) ?_
  refine a_iconst (pc := 0) (v := nI 0) dX12_darkMany_0 (by decide) ?_
  refine a_istoren_1 (pc := 1) dX12_darkMany_1 (by decide) (by first | rfl | trivial) ?_
  refine a_iconst (pc := 2) (v := nI 0) dX12_darkMany_2 (by decide) ?_
  refine a_istoren_2 (pc := 3) dX12_darkMany_3 (by decide) (by first | rfl | trivial) ?_
  exact lp 37 0 (by omega) (by omega)
set_option maxRecDepth 100000 in
set_option maxHeartbeats 4000000 in
theorem m_darkChildren {G : Cx} {d : Nat} {h h0 : List va_E} {b : MB} {p : MP} {t : MT} {o : MO} {Q : Option Value → List va_E → Prop} (hd : 1 ≤ d) (hz : gz G = false) (hm : MS G h0 h (b, p, t, o)) {v : Cv} (hv : HV (b, p, t, o) v) (k : Q (some (.int (nI (ctn (fun r => cK v r && cC v r) 36)))) h) : AM G yX12_darkChildren cX12_darkChildren 3 (some .int) d 0 0 [.ref (gB G + 80)] h Q := by
  obtain ⟨d, rfl, he⟩ := dpos hd
  have lp : ∀ (n : Nat) (i : Nat), 36 - i < n → (i ≤ 36) → AW G yX12_darkChildren cX12_darkChildren 3 (some .int) (rmx (d + 1) 0 0) (ZQ G 0 0 (h.length + 0) Q) 0 0 4 [some (.ref (gB G + 80)), some (.int (nI (ctn (fun r => cK v r && cC v r) i))), some (.int (nI (i)))] [] h := by
    intro n
    induction n with
    | zero => intro i hn; exact absurd hn (Nat.not_lt_zero _)
    | succ n ih =>
      intro i hn hi36
      refine a_iloadn_2 (pc := 4) dX12_darkChildren_4 ?_
      refine a_bipush (pc := 5) (v := nI 36) dX12_darkChildren_5 (by decide) ?_
      refine n_icmp_ge (tgt := 35) dX12_darkChildren_7 (by decide) (by omega) (by decide) (fun c_7 => ?_) (fun c_7 => ?_)
      · obtain rfl : i = 36 := by omega
        refine a_iloadn_1 (pc := 35) dX12_darkChildren_35 ?_
        exact a_iret (pc := 36) dX12_darkChildren_36 rfl (zf hz) k
      · refine a_iloadn_1 (pc := 10) dX12_darkChildren_10 ?_
        refine a_aloadn_0 (pc := 11) dX12_darkChildren_11 ?_
        refine mg_34 hm rfl dX12_darkChildren_12 ?_
        refine a_iloadn_2 (pc := 15) dX12_darkChildren_15 ?_
        refine ml_isDark (x := (cK v i).toNat) hm dX12_darkChildren_16 (by omega) (hv.1 i (by omega)).2.1 ?_
        refine a_aloadn_0 (pc := 17) dX12_darkChildren_17 ?_
        refine mg_9 hm rfl dX12_darkChildren_18 ?_
        refine a_bipush (pc := 21) (v := nI 72) dX12_darkChildren_21 (by decide) ?_
        refine a_iloadn_2 (pc := 23) dX12_darkChildren_23 ?_
        refine n_iadd dX12_darkChildren_24 ?_
        refine ml_may (x := (cC v i).toNat) hm dX12_darkChildren_25 (by omega) (hv.1 i (by omega)).2.2.2 ?_
        refine n_imul dX12_darkChildren_26 ?_
        refine n_iadd dX12_darkChildren_27 ?_
        refine a_topi (nI (ctn (fun r => cK v r && cC v r) (i + 1))) (by rw [ctn]; cases cK v i <;> cases cC v i <;> rfl) ?_
        refine a_istoren_1 (pc := 28) dX12_darkChildren_28 (by decide) (by first | rfl | trivial) ?_
        refine a_iinc_2 (pc := 29) (v := nI (i + 1)) dX12_darkChildren_29 (nI_add _ _) (by decide) (by first | rfl | trivial) ?_
        refine a_goto (pc := 32) (tgt := 4) dX12_darkChildren_32 (by decide) ?_
        exact ih (i + 1) (by omega) (by omega)
  refine AM.of [some (.ref (gB G + 80)), none, none] pnX12 (Nat.le_of_ble_eq_true rfl) (by simp [lsub, lvI, Value.category]) ?_
  refine a_iconst (pc := 0) (v := nI 0) dX12_darkChildren_0 (by decide) ?_
  refine a_istoren_1 (pc := 1) dX12_darkChildren_1 (by decide) (by first | rfl | trivial) ?_
  refine a_iconst (pc := 2) (v := nI 0) dX12_darkChildren_2 (by decide) ?_
  refine a_istoren_2 (pc := 3) dX12_darkChildren_3 (by decide) (by first | rfl | trivial) ?_
  exact lp 37 0 (by omega) (by omega)
set_option maxRecDepth 100000 in
set_option maxHeartbeats 4000000 in
theorem m_darkSet {G : Cx} {d : Nat} {h h0 : List va_E} {b : MB} {p : MP} {t : MT} {o : MO} {Q : Option Value → List va_E → Prop} (hd : 1 ≤ d) (hz : gz G = false) (hm : MS G h0 h (b, p, t, o)) {v : Cv} (hv : HV (b, p, t, o) v) (k : Q (some (.long (bL (cK v)))) h) : AM G yX12_darkSet cX12_darkSet 4 (some .long) d 0 0 [.ref (gB G + 80)] h Q := by
  obtain ⟨d, rfl, he⟩ := dpos hd
  have lp : ∀ (n : Nat) (i : Nat), 36 - i < n → (i ≤ 36) → AW G yX12_darkSet cX12_darkSet 4 (some .long) (rmx (d + 1) 0 0) (ZQ G 0 0 (h.length + 0) Q) 0 0 4 [some (.ref (gB G + 80)), some (.long (bL (fun r => decide (r < i) && cK v r))), none, some (.int (nI (i)))] [] h := by
    intro n
    induction n with
    | zero => intro i hn; exact absurd hn (Nat.not_lt_zero _)
    | succ n ih =>
      intro i hn hi36
      refine a_iloadn_3 (pc := 4) dX12_darkSet_4 ?_
      refine a_bipush (pc := 5) (v := nI 36) dX12_darkSet_5 (by decide) ?_
      refine n_icmp_ge (tgt := 28) dX12_darkSet_7 (by decide) (by omega) (by decide) (fun c_7 => ?_) (fun c_7 => ?_)
      · obtain rfl : i = 36 := by omega
        refine a_lloadn_1 (pc := 28) dX12_darkSet_28 ?_
        exact a_lret (pc := 29) dX12_darkSet_29 rfl (zf hz) (by rw [show bL (cK v) = bL (fun r => decide (r < 36) && cK v r) from bL_congr (fun r hr => by simp [hr])] at k; exact k)
      · refine a_lloadn_1 (pc := 10) dX12_darkSet_10 ?_
        refine a_aloadn_0 (pc := 11) dX12_darkSet_11 ?_
        refine mg_34 hm rfl dX12_darkSet_12 ?_
        refine a_iloadn_3 (pc := 15) dX12_darkSet_15 ?_
        refine ml_isDark (x := (cK v i).toNat) hm dX12_darkSet_16 (by omega) (hv.1 i (by omega)).2.1 ?_
        refine a_topi (bI (cK v i)) (bI_nI _).symm ?_
        refine a_i2l (pc := 17) dX12_darkSet_17 ?_
        refine a_iloadn_3 (pc := 18) dX12_darkSet_18 ?_
        refine a_lshl (pc := 19) dX12_darkSet_19 ?_
        refine a_lor (pc := 20) dX12_darkSet_20 ?_
        refine a_topl (bL (fun r => decide (r < i + 1) && cK v r)) (ctn_bL_or (by omega)) ?_
        refine a_lstoren_1 (pc := 21) dX12_darkSet_21 (by decide) (by first | rfl | trivial) ?_
        refine a_iinc_3 (pc := 22) (v := nI (i + 1)) dX12_darkSet_22 (nI_add _ _) (by decide) (by first | rfl | trivial) ?_
        refine a_goto (pc := 25) (tgt := 4) dX12_darkSet_25 (by decide) ?_
        exact ih (i + 1) (by omega) (by omega)
  refine AM.of [some (.ref (gB G + 80)), none, none, none] pnX12 (Nat.le_of_ble_eq_true rfl) (by simp [lsub, lvI, Value.category]) ?_
  refine a_lconst (pc := 0) (v := 0) dX12_darkSet_0 (by decide) ?_
  refine a_topl (bL (fun r => decide (r < 0) && cK v r)) (by rw [← bL_0]; exact bL_congr (fun r _ => by simp)) ?_
  refine a_lstoren_1 (pc := 1) dX12_darkSet_1 (by decide) (by first | rfl | trivial) ?_
  refine a_iconst (pc := 2) (v := nI 0) dX12_darkSet_2 (by decide) ?_
  refine a_istoren_3 (pc := 3) dX12_darkSet_3 (by decide) (by first | rfl | trivial) ?_
  exact lp 37 0 (by omega) (by omega)
