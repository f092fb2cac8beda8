theorem dvk {x y k : Nat} (h : x < k) : (x + k * y) / k = y := by
  rw [Nat.add_mul_div_left _ _ (by omega), Nat.div_eq_of_lt h, Nat.zero_add]
theorem pop_a {a b y z w : Nat} (hy : y = a + 256 * z) (hz : z = b + 256 * w) : y + z = (a + b) + 256 * (z + w) := by omega
theorem pop_b {a b c x y z : Nat} (h1 : x = a + 256 * y) (h2 : y = b + 256 * z) (h3 : c = b) : x = a + 256 * c + 65536 * z := by omega
theorem pop_c {a b s u v w : Nat} (h1 : s = a + 65536 * u) (h2 : u = b + 65536 * v) (h3 : w = v + v) : s + u = a + b + 65536 * (b + v) + 4294967296 * v := by omega
theorem pop_low {c f0 f1 f2 f3 f4 f5 f6 f7 : Nat} (h7 : c = f0 + 256 * (f1 + 256 * (f2 + 256 * (f3 + 256 * (f4 + 256 * (f5 + 256 * (f6 + 256 * f7))))))) (g : f0 ≤ 8 ∧ f1 ≤ 8 ∧ f2 ≤ 8 ∧ f3 ≤ 8 ∧ f4 ≤ 8 ∧ f5 ≤ 8 ∧ f6 ≤ 8 ∧ f7 ≤ 8) : (c + c / 256 + (c + c / 256) / 65536 + (c + c / 256 + (c + c / 256) / 65536) / 4294967296) % 128 = f0 + f1 + f2 + f3 + f4 + f5 + f6 + f7 := by
  obtain ⟨y6, h6⟩ : ∃ y, y = f6 + 256 * f7 := ⟨_, rfl⟩
  rw [← h6] at h7
  obtain ⟨y5, h5⟩ : ∃ y, y = f5 + 256 * y6 := ⟨_, rfl⟩
  rw [← h5] at h7
  obtain ⟨y4, h4⟩ : ∃ y, y = f4 + 256 * y5 := ⟨_, rfl⟩
  rw [← h4] at h7
  obtain ⟨y3, h3⟩ : ∃ y, y = f3 + 256 * y4 := ⟨_, rfl⟩
  rw [← h3] at h7
  obtain ⟨y2, h2⟩ : ∃ y, y = f2 + 256 * y3 := ⟨_, rfl⟩
  rw [← h2] at h7
  obtain ⟨y1, h1⟩ : ∃ y, y = f1 + 256 * y2 := ⟨_, rfl⟩
  rw [← h1] at h7
  have e1 : c / 256 = y1 := by rw [h7]; exact dvk (Nat.lt_of_le_of_lt g.1 (by decide))
  have b1 : c + y1 = (f0 + f1) + 256 * (y1 + y2) := pop_a h7 h1
  have b2 : y1 + y2 = (f1 + f2) + 256 * (y2 + y3) := pop_a h1 h2
  have b3 : y2 + y3 = (f2 + f3) + 256 * (y3 + y4) := pop_a h2 h3
  have b4 : y3 + y4 = (f3 + f4) + 256 * (y4 + y5) := pop_a h3 h4
  have b5 : y4 + y5 = (f4 + f5) + 256 * (y5 + y6) := pop_a h4 h5
  have b6 : y5 + y6 = (f5 + f6) + 256 * (y6 + f7) := pop_a h5 h6
  have b7 : y6 + f7 = f6 + f7 + 256 * f7 := by rw [h6]; omega
  have e2 : c + y1 = (f0 + f1 + 256 * (f1 + f2)) + 65536 * (y2 + y3) := pop_b b1 b2 rfl
  have e2' : y2 + y3 = (f2 + f3 + 256 * (f3 + f4)) + 65536 * (y4 + y5) := pop_b b3 b4 rfl
  have e2'' : y4 + y5 = (f4 + f5 + 256 * (f5 + f6)) + 65536 * (y6 + f7) := pop_b b5 b6 rfl
  clear h1 h2 h3 h4 h5 h6 h7 b1 b2 b3 b4 b5 b6
  rw [e1]
  clear e1
  generalize y6 + f7 = v3 at e2'' b7
  generalize y4 + y5 = v2 at e2' e2''
  generalize y2 + y3 = v1 at e2 e2'
  generalize c + y1 = v0 at e2 ⊢
  have q1 : f0 + f1 + 256 * (f1 + f2) < 65536 := by omega
  have q2 : f2 + f3 + 256 * (f3 + f4) < 65536 := by omega
  have q3 : f4 + f5 + 256 * (f5 + f6) < 65536 := by omega
  have e3 : v0 / 65536 = v1 := by rw [e2]; exact dvk q1
  rw [e3]
  clear e3
  have e4 : v0 + v1 = (f0 + f1 + 256 * (f1 + f2) + (f2 + f3 + 256 * (f3 + f4)) + 65536 * (f2 + f3 + 256 * (f3 + f4) + (f4 + f5 + 256 * (f5 + f6)))) + 4294967296 * (v2 + v3) := by
    rw [e2]
    generalize f0 + f1 + 256 * (f1 + f2) = p0
    generalize f2 + f3 + 256 * (f3 + f4) = p1 at e2'
    generalize f4 + f5 + 256 * (f5 + f6) = p2 at e2''
    clear g q1 q2 q3 e2
    omega
  have e5 : (v0 + v1) / 4294967296 = v2 + v3 := by
    rw [e4]
    exact dvk (by clear e4 e2 e2' e2''; omega)
  rw [e5, e4]
  clear e5 e4 e2 e2' q1 q2 q3
  generalize hm : 4294967296 * (v2 + v3) = m
  have hm2 : m % 128 = 0 := by rw [← hm]; omega
  rw [e2'', b7]
  clear e2'' b7 hm
  omega
