/-! how many bits: Long.bitCount -/
def ctn (p : Nat → Bool) : Nat → Nat
  | 0 => 0
  | n + 1 => ctn p n + (p n).toNat
theorem ctn_congr {p q : Nat → Bool} : ∀ {n : Nat}, (∀ k, k < n → p k = q k) → ctn p n = ctn q n
  | 0, _ => rfl
  | n + 1, h => by rw [ctn, ctn, ctn_congr (fun k hk => h k (by omega)), h n (by omega)]
theorem ctn_le (p : Nat → Bool) : ∀ n, ctn p n ≤ n
  | 0 => Nat.le_refl _
  | n + 1 => by have := ctn_le p n; rw [ctn]; have : (p n).toNat ≤ 1 := by cases p n <;> decide
                omega
theorem ctn_cut {p : Nat → Bool} {m : Nat} : ∀ {n : Nat}, m ≤ n → (∀ k, m ≤ k → p k = false) → ctn p n = ctn p m
  | 0, h, _ => by rw [show m = 0 by omega]
  | n + 1, h, hp => by
    by_cases e : m = n + 1
    · rw [e]
    · rw [ctn, ctn_cut (by omega) hp, hp n (by omega)]; rfl
theorem and_rec {s q r q' r' : Nat} (hr : r < 2 ^ s) (hr' : r' < 2 ^ s) : (2 ^ s * q + r) &&& (2 ^ s * q' + r') = 2 ^ s * (q &&& q') + (r &&& r') := by
  apply Nat.eq_of_testBit_eq
  intro j
  rw [Nat.testBit_and, Nat.testBit_two_pow_mul_add _ hr, Nat.testBit_two_pow_mul_add _ hr', Nat.testBit_two_pow_mul_add _ (Nat.and_lt_two_pow r hr')]
  split <;> rw [Nat.testBit_and]
def pol (B : Nat) (e : Nat → Nat) : Nat → Nat
  | 0 => 0
  | k + 1 => B * pol B (fun j => e (j + 1)) k + e 0
def smn (e : Nat → Nat) : Nat → Nat
  | 0 => 0
  | k + 1 => e 0 + smn (fun j => e (j + 1)) k
theorem pol_and {s : Nat} : ∀ (k : Nat) (e m : Nat → Nat), (∀ j, e j < 2 ^ s) → (∀ j, m j < 2 ^ s) → pol (2 ^ s) e k &&& pol (2 ^ s) m k = pol (2 ^ s) (fun j => e j &&& m j) k
  | 0, _, _, _, _ => by simp [pol]
  | k + 1, e, m, he, hm => by
    rw [pol, pol, and_rec (he 0) (hm 0), pol_and k _ _ (fun j => he (j + 1)) (fun j => hm (j + 1))]
    rfl
theorem pol_mod {s t : Nat} (hts : t ≤ s) (k : Nat) (e : Nat → Nat) (he : ∀ j, e j < 2 ^ s) : pol (2 ^ s) e k &&& pol (2 ^ s) (fun _ => 2 ^ t - 1) k = pol (2 ^ s) (fun j => e j % 2 ^ t) k := by
  have h1 : 2 ^ t ≤ 2 ^ s := Nat.pow_le_pow_right (by omega) hts
  have h2 : 0 < 2 ^ t := Nat.two_pow_pos t
  rw [pol_and k e _ he (fun _ => by omega)]
  congr 1
  funext j
  exact Nat.and_two_pow_sub_one_eq_mod _ _
theorem pol_half {t : Nat} : ∀ (k : Nat) (e : Nat → Nat), (∀ j, e j < 2 ^ (t + t)) → (pol (2 ^ (t + t)) e k / 2 ^ t) &&& pol (2 ^ (t + t)) (fun _ => 2 ^ t - 1) k = pol (2 ^ (t + t)) (fun j => e j / 2 ^ t) k
  | 0, _, _ => by simp [pol]
  | k + 1, e, he => by
    have hp : 0 < 2 ^ t := Nat.two_pow_pos t
    have hB : 2 ^ (t + t) = 2 ^ t * 2 ^ t := Nat.pow_add 2 t t
    have h0 : e 0 / 2 ^ t < 2 ^ t := by rw [Nat.div_lt_iff_lt_mul hp, ← hB]; exact he 0
    have ih := pol_half k (fun j => e (j + 1)) (fun j => he (j + 1))
    rw [pol, pol, pol]
    generalize pol (2 ^ (t + t)) (fun j => e (j + 1)) k = Pp at ih ⊢
    have e1 : (2 ^ (t + t) * Pp + e 0) / 2 ^ t = 2 ^ (t + t) * (Pp / 2 ^ t) + (2 ^ t * (Pp % 2 ^ t) + e 0 / 2 ^ t) := by
      rw [hB, Nat.mul_assoc, Nat.mul_comm (2 ^ t) (2 ^ t * Pp), Nat.add_comm, Nat.add_mul_div_right _ _ hp, Nat.mul_assoc (2 ^ t) (2 ^ t)]
      have : 2 ^ t * Pp = 2 ^ t * (2 ^ t * (Pp / 2 ^ t)) + 2 ^ t * (Pp % 2 ^ t) := by rw [← Nat.mul_add, Nat.div_add_mod]
      omega
    have e2 : 2 ^ t * (Pp % 2 ^ t) + e 0 / 2 ^ t < 2 ^ (t + t) := by
      have h3 : Pp % 2 ^ t + 1 ≤ 2 ^ t := Nat.mod_lt _ hp
      have h4 : 2 ^ t * (Pp % 2 ^ t + 1) ≤ 2 ^ t * 2 ^ t := Nat.mul_le_mul_left _ h3
      rw [Nat.mul_add, Nat.mul_one] at h4
      omega
    rw [e1, and_rec e2 (by have : 2 ^ t ≤ 2 ^ (t + t) := Nat.pow_le_pow_right (by omega) (by omega); omega), ih, Nat.and_two_pow_sub_one_eq_mod, Nat.mul_add_mod, Nat.mod_eq_of_lt h0]
theorem pol_repr (B : Nat) (hB : 0 < B) : ∀ (k n : Nat), n < B ^ k → n = pol B (fun j => n / B ^ j % B) k
  | 0, n, h => by simp at h; subst h; rfl
  | k + 1, n, h => by
    have h1 : n / B < B ^ k := by rw [Nat.div_lt_iff_lt_mul hB, ← Nat.pow_succ]; exact h
    have ih := pol_repr B hB k (n / B) h1
    rw [pol]
    have e : (fun j => n / B ^ (j + 1) % B) = fun j => n / B / B ^ j % B := by
      funext j
      rw [Nat.pow_succ, Nat.mul_comm, Nat.div_div_eq_div_mul]
    rw [e, ← ih, Nat.pow_zero, Nat.div_one, Nat.div_add_mod]
theorem pol_congr {B : Nat} : ∀ {k : Nat} {e f : Nat → Nat}, (∀ j, e j = f j) → pol B e k = pol B f k
  | k, e, f, h => by rw [show e = f from funext h]
theorem pol_add (B : Nat) : ∀ (k : Nat) (e f : Nat → Nat), pol B e k + pol B f k = pol B (fun j => e j + f j) k
  | 0, _, _ => rfl
  | k + 1, e, f => by
    have := pol_add B k (fun j => e (j + 1)) (fun j => f (j + 1))
    rw [pol, pol, pol, ← this, Nat.mul_add]
    omega
theorem pol_two (B : Nat) : ∀ (k : Nat) (e : Nat → Nat), pol B e (2 * k) = pol (B * B) (fun j => e (2 * j) + B * e (2 * j + 1)) k
  | 0, _ => rfl
  | k + 1, e => by
    rw [show 2 * (k + 1) = (2 * k + 1) + 1 by omega, pol, pol, pol_two B k, pol]
    rw [Nat.mul_add, ← Nat.mul_assoc]
    show _ + B * e 1 + e 0 = _ + (e 0 + B * e 1)
    have : (fun j => e (2 * j + 1 + 1) + B * e (2 * j + 1 + 1 + 1)) = fun j => e (2 * (j + 1)) + B * e (2 * (j + 1) + 1) := rfl
    rw [this]
    omega
theorem smn_two : ∀ (k : Nat) (e : Nat → Nat), smn e (2 * k) = smn (fun j => e (2 * j) + e (2 * j + 1)) k
  | 0, _ => rfl
  | k + 1, e => by
    rw [show 2 * (k + 1) = (2 * k + 1) + 1 by omega, smn, smn, smn_two k, smn]
    show e 0 + (e 1 + _) = (e 0 + e 1) + _
    rw [Nat.add_assoc]
    rfl
theorem smn_congr {k : Nat} {e f : Nat → Nat} (h : ∀ j, e j = f j) : smn e k = smn f k := by rw [show e = f from funext h]
theorem smn_ctn : ∀ (n m : Nat) (p : Nat → Bool), ctn p (m + n) = ctn p m + smn (fun j => (p (m + j)).toNat) n
  | 0, m, p => by simp [smn]
  | n + 1, m, p => by
    have := smn_ctn n (m + 1) p
    have e : (fun j => (p (m + 1 + j)).toNat) = fun j => (p (m + (j + 1))).toNat := by funext j; rw [show m + 1 + j = m + (j + 1) by omega]
    rw [show m + (n + 1) = m + 1 + n by omega, this, e, ctn, smn, Nat.add_zero]
    show _ + _ + _ = _ + ((p m).toNat + _)
    omega
/-- the steps of bitCount over numbers -/
theorem pop_nat (n : Nat) (hn : n < 2 ^ 64) :
    ∃ a b c f0 f1 f2 f3 f4 f5 f6 f7 : Nat, n / 2 &&& 6148914691236517205 ≤ n ∧ a = n - (n / 2 &&& 6148914691236517205) ∧ a < 2 ^ 64 ∧ b = (a &&& 3689348814741910323) + (a / 4 &&& 3689348814741910323) ∧ b < 2 ^ 63 ∧ c = (b + b / 16) &&& 1085102592571150095 ∧ c = f0 + 256 * (f1 + 256 * (f2 + 256 * (f3 + 256 * (f4 + 256 * (f5 + 256 * (f6 + 256 * f7)))))) ∧ f0 ≤ 8 ∧ f1 ≤ 8 ∧ f2 ≤ 8 ∧ f3 ≤ 8 ∧ f4 ≤ 8 ∧ f5 ≤ 8 ∧ f6 ≤ 8 ∧ f7 ≤ 8 ∧ f0 + f1 + f2 + f3 + f4 + f5 + f6 + f7 = ctn (fun i => n.testBit i) 64 := by
  have m1 : 6148914691236517205 = pol (2 ^ (1 + 1)) (fun _ => 2 ^ 1 - 1) 32 := by decide +kernel
  have m2 : 3689348814741910323 = pol (2 ^ (2 + 2)) (fun _ => 2 ^ 2 - 1) 16 := by decide +kernel
  have m3 : 1085102592571150095 = pol (2 ^ 8) (fun _ => 2 ^ 4 - 1) 8 := by decide +kernel
  -- base 4
  obtain ⟨d, hd⟩ : ∃ d : Nat → Nat, d = fun j => n / 4 ^ j % 4 := ⟨_, rfl⟩
  have hd4 : ∀ j, d j < 4 := fun j => by rw [hd]; exact Nat.mod_lt _ (by decide)
  have hn4 : n = pol 4 d 32 := by rw [hd]; exact pol_repr 4 (by decide) 32 n hn
  have s1 : n / 2 &&& 6148914691236517205 = pol 4 (fun j => d j / 2) 32 := by
    rw [m1, hn4]
    exact pol_half (t := 1) 32 d hd4
  obtain ⟨c1, hc1⟩ : ∃ c1 : Nat → Nat, c1 = fun j => d j - d j / 2 := ⟨_, rfl⟩
  have hc2 : ∀ j, c1 j ≤ 2 := fun j => by have := hd4 j; rw [hc1]; dsimp only; omega
  have sA : pol 4 c1 32 + pol 4 (fun j => d j / 2) 32 = n := by
    rw [pol_add, hn4]
    exact pol_congr (fun j => by rw [hc1]; dsimp only; omega)
  -- base 16
  obtain ⟨e1, he1⟩ : ∃ e1 : Nat → Nat, e1 = fun j => c1 (2 * j) + 4 * c1 (2 * j + 1) := ⟨_, rfl⟩
  have ha : pol 4 c1 32 = pol 16 e1 16 := by rw [he1]; exact pol_two 4 16 c1
  have he16 : ∀ j, e1 j < 16 := fun j => by have h1 := hc2 (2 * j); have h2 := hc2 (2 * j + 1); rw [he1]; dsimp only; omega
  have s2 : pol 16 e1 16 &&& 3689348814741910323 = pol 16 (fun j => c1 (2 * j)) 16 := by
    rw [m2]
    refine (pol_mod (s := 4) (t := 2) (by decide) 16 e1 he16).trans (pol_congr (fun j => ?_))
    have h1 := hc2 (2 * j); rw [he1]; dsimp only; omega
  have s3 : pol 16 e1 16 / 4 &&& 3689348814741910323 = pol 16 (fun j => c1 (2 * j + 1)) 16 := by
    rw [m2]
    refine (pol_half (t := 2) 16 e1 he16).trans (pol_congr (fun j => ?_))
    have h1 := hc2 (2 * j); rw [he1]; dsimp only; omega
  obtain ⟨g, hg⟩ : ∃ g : Nat → Nat, g = fun j => c1 (2 * j) + c1 (2 * j + 1) := ⟨_, rfl⟩
  have hg4 : ∀ j, g j ≤ 4 := fun j => by have h1 := hc2 (2 * j); have h2 := hc2 (2 * j + 1); rw [hg]; dsimp only; omega
  have sB : pol 16 (fun j => c1 (2 * j)) 16 + pol 16 (fun j => c1 (2 * j + 1)) 16 = pol 16 g 16 := by rw [pol_add, hg]
  -- base 256
  obtain ⟨u, hu⟩ : ∃ u : Nat → Nat, u = fun j => g (2 * j) + 16 * g (2 * j + 1) := ⟨_, rfl⟩
  have hb : pol 16 g 16 = pol 256 u 8 := by rw [hu]; exact pol_two 16 8 g
  obtain ⟨x, hx⟩ : ∃ x : Nat → Nat, x = fun j => g j + (if j < 15 then g (j + 1) else 0) := ⟨_, rfl⟩
  have hx8 : ∀ j, x j ≤ 8 := fun j => by have h1 := hg4 j; have h2 := hg4 (j + 1); rw [hx]; dsimp only; split <;> omega
  have sC : pol 16 g 16 + pol 16 g 16 / 16 = pol 16 x 16 := by
    rw [hx]
    simp only [pol]
    simp only [Nat.zero_add, Nat.reduceAdd, Nat.reduceLT, if_true, if_false, Nat.lt_irrefl]
    have h0 := hg4 0
    omega
  have sD : pol 16 x 16 &&& 1085102592571150095 = pol 256 (fun j => x (2 * j)) 8 := by
    rw [m3, show pol 16 x 16 = pol (2 ^ 8) (fun j => x (2 * j) + 16 * x (2 * j + 1)) 8 from pol_two 16 8 x]
    refine (pol_mod (s := 8) (t := 4) (by decide) 8 _ (fun j => ?_)).trans (pol_congr (fun j => ?_))
    · have h1 := hx8 (2 * j); have h2 := hx8 (2 * j + 1); omega
    · have h1 := hx8 (2 * j); omega
  have hct : ctn (fun i => n.testBit i) 64 = smn g 16 := by
    have h1 := smn_ctn 64 0 (fun i => n.testBit i)
    rw [Nat.zero_add] at h1
    rw [h1, ctn, Nat.zero_add, show (64 : Nat) = 2 * 32 from rfl, smn_two, hg, ← smn_two 16 c1]
    refine smn_congr (fun j => ?_)
    rw [hc1, hd]
    dsimp only
    rw [Nat.zero_add, Nat.zero_add, Nat.testBit_eq_decide_div_mod_eq, Nat.testBit_eq_decide_div_mod_eq]
    have e4 : (4 : Nat) ^ j = 2 ^ (2 * j) := by rw [Nat.pow_mul]
    have e5 : n / 2 ^ (2 * j + 1) = n / 4 ^ j / 2 := by rw [e4, Nat.pow_succ, Nat.div_div_eq_div_mul]
    rw [e5, ← e4]
    generalize n / 4 ^ j = z
    have h2 : z % 2 = 0 ∨ z % 2 = 1 := by omega
    have h3 : z / 2 % 2 = 0 ∨ z / 2 % 2 = 1 := by omega
    rcases h2 with h2 | h2 <;> rcases h3 with h3 | h3 <;> simp [h2, h3] <;> omega
  have hsx : smn g 16 = smn (fun j => x (2 * j)) 8 := by
    rw [show (16 : Nat) = 2 * 8 from rfl, smn_two, hx]
    simp [smn]
  refine ⟨pol 4 c1 32, pol 16 g 16, pol 256 (fun j => x (2 * j)) 8, x 0, x 2, x 4, x 6, x 8, x 10, x 12, x 14, ?_, ?_, ?_, ?_, ?_, ?_, ?_, hx8 _, hx8 _, hx8 _, hx8 _, hx8 _, hx8 _, hx8 _, hx8 _, ?_⟩
  · rw [s1]; omega
  · rw [s1]; omega
  · omega
  · rw [ha, s2, s3, sB]
  · have := hg4
    simp only [pol, Nat.reduceAdd, Nat.zero_add]
    have h0 := hg4 0; have h1 := hg4 1; have h2 := hg4 2; have h3 := hg4 3; have h4 := hg4 4; have h5 := hg4 5; have h6 := hg4 6; have h7 := hg4 7; have h8 := hg4 8; have h9 := hg4 9; have h10 := hg4 10; have h11 := hg4 11; have h12 := hg4 12; have h13 := hg4 13; have h14 := hg4 14; have h15 := hg4 15
    omega
  · rw [sC, sD]
  · simp only [pol, Nat.reduceAdd, Nat.zero_add, Nat.mul_zero, Nat.reduceMul]
    omega
  · rw [hct, hsx]
    simp only [smn, Nat.reduceAdd, Nat.zero_add, Nat.mul_zero, Nat.reduceMul]
    omega
theorem lN_and {a b : Nat} : lN a &&& lN b = lN (a &&& b) := by
  apply tb_ext
  intro i hi
  rw [tb_and, tb_lN, tb_lN, tb_lN, Nat.testBit_and]
  simp [hi]
theorem lN_shr {n k : Nat} (hn : n < 2 ^ 64) (hk : k < 64) : ((lN n).toUInt64 >>> ((nI k).toInt64.toUInt64 &&& Int64.toUInt64 63)).toInt64 = lN (n / 2 ^ k) := by
  apply tb_ext
  intro i hi
  rw [tb_ushr hk, tb_lN, tb_lN, Nat.testBit_div_two_pow]
  by_cases h : i + k < 64
  · simp [h, hi]
  · have : n.testBit (i + k) = false := Nat.testBit_lt_two_pow (Nat.lt_of_lt_of_le hn (Nat.pow_le_pow_right (by omega) (by omega)))
    simp [h, this]
theorem lN_of (x : Int64) : ∃ n, n < 2 ^ 64 ∧ x = lN n ∧ ∀ i, tb x i = n.testBit i := by
  refine ⟨x.toBitVec.toNat, x.toBitVec.isLt, ?_, fun i => ?_⟩
  · apply Int64.toBitVec_inj.mp
    show _ = BitVec.ofNat 64 _
    rw [BitVec.ofNat_toNat, BitVec.setWidth_eq]
  · rfl
