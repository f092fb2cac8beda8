/-! bits of longs -/
theorem zf {b : Bool} {P : Prop} (hz : b = false) (q : b = true) : P := by rw [hz] at q; cases q
theorem hs_ne {h : List va_E} {q k : Nat} {e : va_E} {r : Option va_E} (hk : q ≠ k) (H : h[k]? = r) : (h.set q e)[k]? = r := by rw [List.getElem?_set_ne hk]; exact H
theorem hs_eq {h : List va_E} {q : Nat} {e e0 : va_E} (H : h[q]? = some e0) : (h.set q e)[q]? = some e := by
  have := (List.getElem?_eq_some_iff.mp H).1
  rw [List.getElem?_set_self this]
theorem hs_id {h : List va_E} {q : Nat} {e : va_E} (H : h[q]? = some e) : h.set q e = h := by
  apply List.ext_getElem?
  intro i
  rw [List.getElem?_set]
  by_cases hi : q = i
  · subst hi
    rw [if_pos rfl, if_pos (List.getElem?_eq_some_iff.mp H).1, H]
  · rw [if_neg hi]
def bI (b : Bool) : Int32 := if b then 1 else 0
theorem bI_nI (b : Bool) : bI b = nI b.toNat := by cases b <;> rfl
theorem bI_0 {b : Bool} : bI b = 0 ↔ b = false := by cases b <;> decide
theorem bI_nar (b : Bool) : narrow .boolean (.int (bI b)) = .int (bI b) := by cases b <;> rfl
def tb (x : Int64) (i : Nat) : Bool := x.toBitVec.getLsbD i
theorem tb_ext {x y : Int64} (h : ∀ i, i < 64 → tb x i = tb y i) : x = y := by
  apply Int64.toBitVec_inj.mp
  apply BitVec.eq_of_getLsbD_eq
  intro i hi
  exact h i hi
theorem tb_big {x : Int64} {i : Nat} (h : 64 ≤ i) : tb x i = false := BitVec.getLsbD_of_ge _ _ h
theorem tb_and (x y : Int64) (i : Nat) : tb (x &&& y) i = (tb x i && tb y i) := by simp [tb]
theorem tb_or (x y : Int64) (i : Nat) : tb (x ||| y) i = (tb x i || tb y i) := by simp [tb]
theorem tb_xor (x y : Int64) (i : Nat) : tb (x ^^^ y) i = (tb x i ^^ tb y i) := by simp [tb]
theorem tb_m1 {i : Nat} (h : i < 64) : tb (-1) i = true := by
  have : ∀ i : Fin 64, tb (-1) i = true := by decide +kernel
  exact this ⟨i, h⟩
theorem tb_not {x : Int64} {i : Nat} (h : i < 64) : tb (x ^^^ (-1)) i = !tb x i := by rw [tb_xor, tb_m1 h]; simp
theorem tb_0 (i : Nat) : tb 0 i = false := by simp [tb]
theorem tb_lN (n i : Nat) : tb (lN n) i = (decide (i < 64) && n.testBit i) := by
  show (BitVec.ofNat 64 n).getLsbD i = _
  rw [BitVec.getLsbD_ofNat]
theorem sh_lu {k : Nat} (hk : k < 64) : ((nI k).toInt64.toUInt64 &&& Int64.toUInt64 63) = UInt64.ofNat k := by
  have : ∀ k : Fin 64, ((nI k).toInt64.toUInt64 &&& Int64.toUInt64 63) = UInt64.ofNat k := by decide +kernel
  exact this ⟨k, hk⟩
theorem tb_ushr {x : Int64} {k : Nat} (hk : k < 64) (i : Nat) : tb ((x.toUInt64 >>> ((nI k).toInt64.toUInt64 &&& Int64.toUInt64 63)).toInt64) i = tb x (i + k) := by
  rw [sh_lu hk]
  show (x.toUInt64 >>> UInt64.ofNat k).toBitVec.getLsbD i = _
  rw [UInt64.toBitVec_shiftRight]
  have e : ((UInt64.ofNat k).toBitVec % 64).toNat = k := by
    have h1 : (UInt64.ofNat k).toBitVec.toNat = k := by simp; omega
    rw [BitVec.toNat_umod, h1]
    show k % 64 = k
    omega
  rw [BitVec.ushiftRight_eq', e, BitVec.getLsbD_ushiftRight, Nat.add_comm]
  rfl
theorem sh_l {k : Nat} (hk : k < 64) : (((nI k).toInt64 &&& 63).toBitVec.smod 64).toNat = k := by
  have : ∀ k : Fin 64, (((nI k).toInt64 &&& 63).toBitVec.smod 64).toNat = k := by decide +kernel
  exact this ⟨k, hk⟩
theorem tb_shl {x : Int64} {k : Nat} (hk : k < 64) (i : Nat) : tb (x <<< ((nI k).toInt64 &&& 63)) i = (decide (i < 64) && (decide (k ≤ i) && tb x (i - k))) := by
  show (x <<< ((nI k).toInt64 &&& 63)).toBitVec.getLsbD i = _
  rw [Int64.toBitVec_shiftLeft, BitVec.shiftLeft_eq', sh_l hk, BitVec.getLsbD_shiftLeft]
  by_cases h1 : i < 64 <;> by_cases h2 : k ≤ i <;> simp [h1, h2, tb] <;> omega
theorem tb_1 (i : Nat) : tb 1 i = decide (i = 0) := by
  rcases Nat.lt_or_ge i 64 with h | h
  · have : ∀ i : Fin 64, tb 1 i = decide (i.val = 0) := by decide +kernel
    exact this ⟨i, h⟩
  · rw [tb_big h]; simp; omega
theorem tb_bit {k : Nat} (hk : k < 64) (i : Nat) : tb ((1 : Int64) <<< ((nI k).toInt64 &&& 63)) i = decide (i = k) := by
  rw [tb_shl hk, tb_1]
  rcases Nat.lt_or_ge i 64 with h | h
  · by_cases h2 : k ≤ i <;> simp [h, h2] <;> omega
  · rw [decide_eq_false (by omega : ¬ i < 64), decide_eq_false (by omega : ¬ i = k)]; rfl
theorem and1 (x : Int64) : x &&& 1 = if tb x 0 then 1 else 0 := by
  apply tb_ext
  intro i _
  rw [tb_and, tb_1]
  by_cases h : i = 0
  · subst h; cases h2 : tb x 0 <;> simp [tb_1, tb_0]
  · cases h2 : tb x 0 <;> simp [h, tb_1, tb_0]
theorem bitof {x : Int64} {k : Nat} (hk : k < 64) : (x.toUInt64 >>> ((nI k).toInt64.toUInt64 &&& Int64.toUInt64 63)).toInt64 &&& 1 = if tb x k then 1 else 0 := by
  rw [and1, tb_ushr hk, Nat.zero_add]
theorem and_ne {x y : Int64} {k : Nat} (hk : k < 64) (hy : ∀ i, tb y i = decide (i = k)) : x &&& y = 0 ↔ tb x k = false := by
  constructor
  · intro h
    have h1 : tb (x &&& y) k = tb 0 k := by rw [h]
    rw [tb_and, hy, tb_0] at h1
    simpa using h1
  · intro h
    apply tb_ext
    intro i _
    rw [tb_and, hy, tb_0]
    by_cases hi : i = k
    · subst hi; simp [h]
    · simp [hi]
/-- a set of rooms as a long -/
def bN (f : Nat → Bool) : Nat → Nat
  | 0 => 0
  | n + 1 => bN f n + (if f n then 2 ^ n else 0)
theorem bN_lt (f : Nat → Bool) : ∀ n, bN f n < 2 ^ n
  | 0 => by simp [bN]
  | n + 1 => by
    have := bN_lt f n
    rw [bN, Nat.pow_succ]
    split <;> omega
theorem bN_bit (f : Nat → Bool) : ∀ n i, (bN f n).testBit i = (decide (i < n) && f i)
  | 0, i => by simp [bN]
  | n + 1, i => by
    have hl := bN_lt f n
    rw [bN]
    cases hf : f n with
    | false =>
      simp only [Bool.false_eq_true, if_false, Nat.add_zero]
      rw [bN_bit f n i]
      by_cases h : i < n
      · simp [h]; omega
      · by_cases h2 : i = n
        · subst h2; simp [hf]
        · simp [h]; omega
    | true =>
      simp only [if_true]
      rw [Nat.add_comm]
      by_cases h : i = n
      · subst h
        rw [Nat.testBit_two_pow_add_eq, Nat.testBit_lt_two_pow hl]
        simp [hf]
      · rcases Nat.lt_or_gt_of_ne h with h2 | h2
        · rw [Nat.testBit_two_pow_add_gt h2, bN_bit f n i]
          simp [h2]; omega
        · have : 2 ^ n + bN f n < 2 ^ i := Nat.lt_of_lt_of_le (by rw [Nat.pow_succ]; omega : _ < 2 ^ (n + 1)) (Nat.pow_le_pow_right (by omega) h2)
          rw [Nat.testBit_lt_two_pow this]
          simp; omega
def bL (f : Nat → Bool) : Int64 := lN (bN f 36)
theorem tb_bL (f : Nat → Bool) (i : Nat) : tb (bL f) i = (decide (i < 36) && f i) := by
  rw [bL, tb_lN, bN_bit]
  by_cases h : i < 36
  · simp [h]; omega
  · simp [h]
theorem bL_congr {f g : Nat → Bool} (h : ∀ i, i < 36 → f i = g i) : bL f = bL g := by
  apply tb_ext
  intro i _
  rw [tb_bL, tb_bL]
  by_cases hi : i < 36
  · rw [h i hi]
  · simp [hi]
theorem bL_and (f g : Nat → Bool) : bL f &&& bL g = bL (fun i => f i && g i) := by
  apply tb_ext
  intro i _
  rw [tb_and, tb_bL, tb_bL, tb_bL]
  by_cases hi : i < 36 <;> simp [hi]
theorem bL_or (f g : Nat → Bool) : bL f ||| bL g = bL (fun i => f i || g i) := by
  apply tb_ext
  intro i _
  rw [tb_or, tb_bL, tb_bL, tb_bL]
  by_cases hi : i < 36 <;> simp [hi]
theorem bL_andn (f g : Nat → Bool) : bL f &&& (bL g ^^^ (-1)) = bL (fun i => f i && !g i) := by
  apply tb_ext
  intro i h
  rw [tb_and, tb_bL, tb_not h, tb_bL, tb_bL]
  by_cases hi : i < 36 <;> simp [hi]
theorem bL_bit {k : Nat} (hk : k < 36) : (1 : Int64) <<< ((nI k).toInt64 &&& 63) = bL (fun i => decide (i = k)) := by
  apply tb_ext
  intro i _
  rw [tb_bit (by omega), tb_bL]
  by_cases hi : i = k
  · subst hi; simp [hk]
  · simp [hi]
theorem bL_get {f : Nat → Bool} {k : Nat} (hk : k < 36) : ((bL f).toUInt64 >>> ((nI k).toInt64.toUInt64 &&& Int64.toUInt64 63)).toInt64 &&& 1 = if f k then 1 else 0 := by
  rw [bitof (by omega), tb_bL]
  simp [hk]
theorem bL_0 : bL (fun _ => false) = 0 := by decide +kernel
theorem bL_inj {f g : Nat → Bool} : bL f = bL g ↔ ∀ i, i < 36 → f i = g i := by
  constructor
  · intro h i hi
    have h1 : tb (bL f) i = tb (bL g) i := by rw [h]
    rw [tb_bL, tb_bL] at h1
    simpa [hi] using h1
  · exact bL_congr
theorem bL_eq0 {f : Nat → Bool} : bL f = 0 ↔ ∀ i, i < 36 → f i = false := by
  rw [← bL_0, bL_inj]
theorem lg_cmp0 (x z : Int64) : lg_cmp x z = 0 ↔ x = z := by
  unfold lg_cmp
  constructor
  · intro h
    split at h
    · exact absurd h (by decide)
    · split at h
      · assumption
      · exact absurd h (by decide)
  · intro h
    subst h
    simp [Int64.lt_irrefl]
