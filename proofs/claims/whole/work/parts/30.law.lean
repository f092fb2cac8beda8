/-! LAWTEXT and LAW -/
theorem pnX4 : plainName RX4 = true := by decide
theorem pnX2 : plainName RX2 = true := by decide
abbrev opS : List Nat := [33, 37, 38, 42, 43, 45, 47, 60, 61, 62, 124, 126]
def joinV (s : Nat) (a b : Int32) : Int32 := match s with
  | 126 => -a
  | 33 => if a = 0 then 1 else 0
  | 124 => if a = 0 then (if b = 0 then 0 else 1) else 1
  | 38 => if a = 0 then 0 else (if b = 0 then 0 else 1)
  | 60 => if b ≤ a then 0 else 1
  | 61 => if a = b then 1 else 0
  | 62 => if a ≤ b then 0 else 1
  | 43 => a + b
  | 45 => a - b
  | 42 => a * b
  | 47 => if b = 0 then 0 else a / b
  | 37 => if b = 0 then 0 else a - a / b * b
  | _ => 0
/-- a text as it was read: signs, left, right, numbers, first, second, how many parts, how many lines -/
abbrev Tx : Type := (Nat → Nat) × (Nat → Nat) × (Nat → Nat) × (Nat → Int32) × (Nat → Option Nat) × (Nat → Nat) × Nat × Nat
abbrev tS (t : Tx) : Nat → Nat := t.1
abbrev tL (t : Tx) : Nat → Nat := t.2.1
abbrev tR (t : Tx) : Nat → Nat := t.2.2.1
abbrev tV (t : Tx) : Nat → Int32 := t.2.2.2.1
abbrev tF (t : Tx) : Nat → Option Nat := t.2.2.2.2.1
abbrev tD (t : Tx) : Nat → Nat := t.2.2.2.2.2.1
abbrev tP (t : Tx) : Nat := t.2.2.2.2.2.2.1
abbrev tN (t : Tx) : Nat := t.2.2.2.2.2.2.2
def oI : Option Nat → Int32
  | none => -1
  | some j => nI j
def okT (t : Tx) : Prop := 6 ≤ tP t ∧ tP t ≤ 126 ∧ tN t ≤ 61 ∧ (∀ i, 6 ≤ i → i < tP t → tS t i = 48 ∨ (tS t i ∈ opS ∧ tL t i < i ∧ tR t i < i)) ∧ (∀ i, i < tN t → tD t i < tP t ∧ ∀ j, tF t i = some j → j < tP t)
/-- the values after k parts are worked out -/
def runT (t : Tx) (v : Nat → Int32) : Nat → Nat → Int32
  | 0 => v
  | k + 1 => if tS t (6 + k) = 48 then runT t v k else upd (runT t v k) (6 + k) (joinV (tS t (6 + k)) (runT t v k (tL t (6 + k))) (runT t v k (tR t (6 + k))))
def linT (t : Tx) (v : Nat → Int32) : Nat → Nat → Int32
  | _, 0 => 0
  | i, n + 1 => match tF t i with
    | none => v (tD t i)
    | some j => if v j = 0 then linT t v (i + 1) n else v (tD t i)
abbrev nmV (t : Tx) (n0 n1 n2 n3 n4 n5 : Int32) : Nat → Int32 := fun i => match i with
  | 0 => n0
  | 1 => n1
  | 2 => n2
  | 3 => n3
  | 4 => n4
  | 5 => n5
  | i => tV t i
def evalT (t : Tx) (n0 n1 n2 n3 n4 n5 : Int32) : Int32 := linT t (runT t (nmV t n0 n1 n2 n3 n4 n5) (tP t - 6)) 0 (tN t)
theorem runT_agree (t : Tx) (v w : Nat → Int32) (h : ∀ i, i < 6 ∨ (i < tP t ∧ tS t i = 48) → v i = w i) (hok : okT t) : ∀ k, 6 + k ≤ tP t → ∀ i, i < 6 + k ∨ (i < tP t ∧ tS t i = 48) → runT t v k i = runT t w k i
  | 0, _, i, hi => h i hi
  | k + 1, hk, i, hi => by
    have ih := runT_agree t v w h hok k (by omega)
    rw [runT, runT]
    by_cases hs : tS t (6 + k) = 48
    · rw [if_pos hs, if_pos hs]
      refine ih i ?_
      by_cases e : i = 6 + k
      · exact Or.inr ⟨by omega, by rw [e]; exact hs⟩
      · rcases hi with hi | hi
        · exact Or.inl (by omega)
        · exact Or.inr hi
    · rw [if_neg hs, if_neg hs]
      obtain ⟨-, hl, hr⟩ := (hok.2.2.2.1 (6 + k) (by omega) (by omega)).resolve_left hs
      unfold upd
      by_cases e : i = 6 + k
      · rw [if_pos e, if_pos e, ih _ (Or.inl hl), ih _ (Or.inl hr)]
      · rw [if_neg e, if_neg e]
        refine ih i ?_
        rcases hi with hi | hi
        · exact Or.inl (by omega)
        · exact Or.inr hi
theorem linT_agree (t : Tx) (v w : Nat → Int32) (h : ∀ i, i < tP t → v i = w i) (hok : okT t) : ∀ n i, i + n = tN t → linT t v i n = linT t w i n
  | 0, _, _ => rfl
  | n + 1, i, hi => by
    obtain ⟨h1, h2⟩ := hok.2.2.2.2 i (by omega)
    rw [linT, linT, linT_agree t v w h hok n (i + 1) (by omega), h _ h1]
    cases hf : tF t i with
    | none => rfl
    | some j => dsimp only; rw [h j (h2 j hf)]
/-- numbers stay -/
theorem runT_num (t : Tx) (v : Nat → Int32) : ∀ k i, 6 ≤ i → tS t i = 48 → runT t v k i = v i
  | 0, _, _, _ => rfl
  | k + 1, i, h6, hs => by
    rw [runT]
    by_cases e : tS t (6 + k) = 48
    · rw [if_pos e]; exact runT_num t v k i h6 hs
    · rw [if_neg e]
      unfold upd
      rw [if_neg (fun q => e (by rw [← q]; exact hs))]
      exact runT_num t v k i h6 hs
abbrev arr (G : Cx) (n : Nat) (f : Nat → Int32) : va_E := .inl (gc G 0, n, .inl f)
def textAt (G : Cx) (h : List va_E) (t : Nat) (x : Tx) (vf : Nat → Int32) : Prop :=
  h[t]? = some (.inr (4, [.ref (gB G + (t + 1)), .ref (gB G + (t + 2)), .ref (gB G + (t + 3)), .ref (gB G + (t + 4)), .ref (gB G + (t + 5)), .ref (gB G + (t + 6)), .int (nI (tP x)), .int (nI (tN x))])) ∧
  h[t + 1]? = some (ints G 126 (tS x)) ∧ h[t + 2]? = some (ints G 126 (tL x)) ∧ h[t + 3]? = some (ints G 126 (tR x)) ∧ h[t + 4]? = some (arr G 126 vf) ∧ h[t + 5]? = some (arr G 61 (fun i => oI (tF x i))) ∧ h[t + 6]? = some (ints G 61 (tD x)) ∧
  okT x ∧ ∀ i, 6 ≤ i → i < tP x → tS x i = 48 → vf i = tV x i
theorem held_nI (x : Int32) : ∃ n : Nat, n ≤ 9 ∧ (if nI 0 < (if x < nI 9 then x else nI 9) then (if x < nI 9 then x else nI 9) else nI 0) = nI n ∧ nI n = (if x < 0 then 0 else if 9 < x then 9 else x) := by
  show ∃ n : Nat, n ≤ 9 ∧ (if (0 : Int32) < (if x < 9 then x else 9) then (if x < 9 then x else 9) else 0) = nI n ∧ _
  by_cases h0 : x < 0
  · have h1 : x < 9 := Int32.lt_trans h0 (by decide)
    refine ⟨0, by decide, ?_, by rw [if_pos h0]; rfl⟩
    rw [if_pos h1, if_neg (fun q => Int32.lt_irrefl (Int32.lt_trans h0 q))]
    rfl
  · by_cases h9 : 9 < x
    · refine ⟨9, by decide, ?_, by rw [if_neg h0, if_pos h9]; rfl⟩
      rw [if_neg (fun q => Int32.lt_irrefl (Int32.lt_trans h9 q)), if_pos (by decide)]
      rfl
    · obtain ⟨j, hj, rfl⟩ := nI_of2 (M := 9) (n := 9) (by decide) h0 (Int32.not_lt.mp h9)
      refine ⟨j, hj, ?_, by rw [if_neg h0, if_neg h9]⟩
      by_cases e : nI j < 9
      · rw [if_pos e]
        by_cases e0 : (0 : Int32) < nI j
        · rw [if_pos e0]
        · rw [if_neg e0]
          have : nI j = 0 := Int32.le_antisymm (Int32.not_lt.mp e0) (Int32.not_lt.mp h0)
          exact this.symm
      · rw [if_neg e, if_pos (by decide)]
        exact Int32.le_antisymm (Int32.not_lt.mp e) (Int32.not_lt.mp h9)
set_option maxRecDepth 100000 in
set_option maxHeartbeats 4000000 in
theorem x_joined {G : Cx} {d s : Nat} {x z : Int32} {h : List va_E} {Q : Option Value → List va_E → Prop} (hd : 1 ≤ d) (hz : gz G = false) (hs : s ∈ opS) (k : Q (some (.int (joinV s x z))) h) : AM G yX4_joined cX4_joined 3 (some .int) d 0 0 [.int (nI s), .int x, .int z] h Q := by
  obtain ⟨d, rfl, he⟩ := dpos hd
  refine AM.of [some (.int (nI s)), some (.int x), some (.int z)] pnX4 (Nat.le_of_ble_eq_true rfl) (by simp [lsub, lvI, Value.category]) ?_
  rcases (show s = 33 ∨ s = 37 ∨ s = 38 ∨ s = 42 ∨ s = 43 ∨ s = 45 ∨ s = 47 ∨ s = 60 ∨ s = 61 ∨ s = 62 ∨ s = 124 ∨ s = 126 by simpa using hs) with rfl | rfl | rfl | rfl | rfl | rfl | rfl | rfl | rfl | rfl | rfl | rfl
  · refine a_iloadn_0 (pc := 0) dX4_joined_0 ?_
    refine a_lookup (pc := 1) (off := 110) (tgt := 111) dX4_joined_1 (by decide) (by decide) (by decide) ?_
    refine a_iloadn_1 (pc := 111) dX4_joined_111 ?_
    refine a_if_ne (pc := 112) (tgt := 119) dX4_joined_112 (by decide) (fun c_112 => ?_) (fun c_112 => ?_)
    · refine a_iconst (pc := 119) (v := nI 0) dX4_joined_119 (by decide) ?_
      exact a_iret (pc := 120) dX4_joined_120 rfl (zf hz) (by simp only [joinV] at k; first | exact k | (simp only [*, if_true, if_false] at k; exact k) | simpa [*] using k)
    · refine a_iconst (pc := 115) (v := nI 1) dX4_joined_115 (by decide) ?_
      refine a_goto (pc := 116) (tgt := 120) dX4_joined_116 (by decide) ?_
      exact a_iret (pc := 120) dX4_joined_120 rfl (zf hz) (by simp only [joinV] at k; first | exact k | (simp only [*, if_true, if_false] at k; exact k) | simpa [*] using k)
  · refine a_iloadn_0 (pc := 0) dX4_joined_0 ?_
    refine a_lookup (pc := 1) (off := 205) (tgt := 206) dX4_joined_1 (by decide) (by decide) (by decide) ?_
    refine a_iloadn_2 (pc := 206) dX4_joined_206 ?_
    refine a_if_ne (pc := 207) (tgt := 214) dX4_joined_207 (by decide) (fun c_207 => ?_) (fun c_207 => ?_)
    · refine a_iloadn_1 (pc := 214) dX4_joined_214 ?_
      refine a_iloadn_2 (pc := 215) dX4_joined_215 ?_
      refine a_irem (pc := 216) dX4_joined_216 c_207 ?_
      exact a_iret (pc := 217) dX4_joined_217 rfl (zf hz) (by simp only [joinV] at k; first | exact k | (simp only [*, if_true, if_false] at k; exact k) | simpa [*] using k)
    · refine a_iconst (pc := 210) (v := nI 0) dX4_joined_210 (by decide) ?_
      refine a_goto (pc := 211) (tgt := 217) dX4_joined_211 (by decide) ?_
      exact a_iret (pc := 217) dX4_joined_217 rfl (zf hz) (by simp only [joinV] at k; first | exact k | (simp only [*, if_true, if_false] at k; exact k) | simpa [*] using k)
  · refine a_iloadn_0 (pc := 0) dX4_joined_0 ?_
    refine a_lookup (pc := 1) (off := 134) (tgt := 135) dX4_joined_1 (by decide) (by decide) (by decide) ?_
    refine a_iloadn_1 (pc := 135) dX4_joined_135 ?_
    refine a_if_eq (pc := 136) (tgt := 147) dX4_joined_136 (by decide) (fun c_136 => ?_) (fun c_136 => ?_)
    · refine a_iconst (pc := 147) (v := nI 0) dX4_joined_147 (by decide) ?_
      exact a_iret (pc := 148) dX4_joined_148 rfl (zf hz) (by simp only [joinV] at k; first | exact k | (simp only [*, if_true, if_false] at k; exact k) | simpa [*] using k)
    · refine a_iloadn_2 (pc := 139) dX4_joined_139 ?_
      refine a_if_eq (pc := 140) (tgt := 147) dX4_joined_140 (by decide) (fun c_140 => ?_) (fun c_140 => ?_)
      · refine a_iconst (pc := 147) (v := nI 0) dX4_joined_147 (by decide) ?_
        exact a_iret (pc := 148) dX4_joined_148 rfl (zf hz) (by simp only [joinV] at k; first | exact k | (simp only [*, if_true, if_false] at k; exact k) | simpa [*] using k)
      · refine a_iconst (pc := 143) (v := nI 1) dX4_joined_143 (by decide) ?_
        refine a_goto (pc := 144) (tgt := 148) dX4_joined_144 (by decide) ?_
        exact a_iret (pc := 148) dX4_joined_148 rfl (zf hz) (by simp only [joinV] at k; first | exact k | (simp only [*, if_true, if_false] at k; exact k) | simpa [*] using k)
  · refine a_iloadn_0 (pc := 0) dX4_joined_0 ?_
    refine a_lookup (pc := 1) (off := 189) (tgt := 190) dX4_joined_1 (by decide) (by decide) (by decide) ?_
    refine a_iloadn_1 (pc := 190) dX4_joined_190 ?_
    refine a_iloadn_2 (pc := 191) dX4_joined_191 ?_
    refine a_imul (pc := 192) dX4_joined_192 ?_
    exact a_iret (pc := 193) dX4_joined_193 rfl (zf hz) (by simp only [joinV] at k; first | exact k | (simp only [*, if_true, if_false] at k; exact k) | simpa [*] using k)
  · refine a_iloadn_0 (pc := 0) dX4_joined_0 ?_
    refine a_lookup (pc := 1) (off := 181) (tgt := 182) dX4_joined_1 (by decide) (by decide) (by decide) ?_
    refine a_iloadn_1 (pc := 182) dX4_joined_182 ?_
    refine a_iloadn_2 (pc := 183) dX4_joined_183 ?_
    refine a_iadd (pc := 184) dX4_joined_184 ?_
    exact a_iret (pc := 185) dX4_joined_185 rfl (zf hz) (by simp only [joinV] at k; first | exact k | (simp only [*, if_true, if_false] at k; exact k) | simpa [*] using k)
  · refine a_iloadn_0 (pc := 0) dX4_joined_0 ?_
    refine a_lookup (pc := 1) (off := 185) (tgt := 186) dX4_joined_1 (by decide) (by decide) (by decide) ?_
    refine a_iloadn_1 (pc := 186) dX4_joined_186 ?_
    refine a_iloadn_2 (pc := 187) dX4_joined_187 ?_
    refine a_isub (pc := 188) dX4_joined_188 ?_
    exact a_iret (pc := 189) dX4_joined_189 rfl (zf hz) (by simp only [joinV] at k; first | exact k | (simp only [*, if_true, if_false] at k; exact k) | simpa [*] using k)
  · refine a_iloadn_0 (pc := 0) dX4_joined_0 ?_
    refine a_lookup (pc := 1) (off := 193) (tgt := 194) dX4_joined_1 (by decide) (by decide) (by decide) ?_
    refine a_iloadn_2 (pc := 194) dX4_joined_194 ?_
    refine a_if_ne (pc := 195) (tgt := 202) dX4_joined_195 (by decide) (fun c_195 => ?_) (fun c_195 => ?_)
    · refine a_iloadn_1 (pc := 202) dX4_joined_202 ?_
      refine a_iloadn_2 (pc := 203) dX4_joined_203 ?_
      refine a_idiv (pc := 204) dX4_joined_204 c_195 ?_
      exact a_iret (pc := 205) dX4_joined_205 rfl (zf hz) (by simp only [joinV] at k; first | exact k | (simp only [*, if_true, if_false] at k; exact k) | simpa [*] using k)
    · refine a_iconst (pc := 198) (v := nI 0) dX4_joined_198 (by decide) ?_
      refine a_goto (pc := 199) (tgt := 205) dX4_joined_199 (by decide) ?_
      exact a_iret (pc := 205) dX4_joined_205 rfl (zf hz) (by simp only [joinV] at k; first | exact k | (simp only [*, if_true, if_false] at k; exact k) | simpa [*] using k)
  · refine a_iloadn_0 (pc := 0) dX4_joined_0 ?_
    refine a_lookup (pc := 1) (off := 148) (tgt := 149) dX4_joined_1 (by decide) (by decide) (by decide) ?_
    refine a_iloadn_1 (pc := 149) dX4_joined_149 ?_
    refine a_iloadn_2 (pc := 150) dX4_joined_150 ?_
    refine a_icmp_ge (pc := 151) (tgt := 158) dX4_joined_151 (by decide) (fun c_151 => ?_) (fun c_151 => ?_)
    · refine a_iconst (pc := 158) (v := nI 0) dX4_joined_158 (by decide) ?_
      exact a_iret (pc := 159) dX4_joined_159 rfl (zf hz) (by simp only [joinV] at k; first | exact k | (simp only [*, if_true, if_false] at k; exact k) | simpa [*] using k)
    · refine a_iconst (pc := 154) (v := nI 1) dX4_joined_154 (by decide) ?_
      refine a_goto (pc := 155) (tgt := 159) dX4_joined_155 (by decide) ?_
      exact a_iret (pc := 159) dX4_joined_159 rfl (zf hz) (by simp only [joinV] at k; first | exact k | (simp only [*, if_true, if_false] at k; exact k) | simpa [*] using k)
  · refine a_iloadn_0 (pc := 0) dX4_joined_0 ?_
    refine a_lookup (pc := 1) (off := 159) (tgt := 160) dX4_joined_1 (by decide) (by decide) (by decide) ?_
    refine a_iloadn_1 (pc := 160) dX4_joined_160 ?_
    refine a_iloadn_2 (pc := 161) dX4_joined_161 ?_
    refine a_icmp_ne (pc := 162) (tgt := 169) dX4_joined_162 (by decide) (fun c_162 => ?_) (fun c_162 => ?_)
    · refine a_iconst (pc := 169) (v := nI 0) dX4_joined_169 (by decide) ?_
      exact a_iret (pc := 170) dX4_joined_170 rfl (zf hz) (by simp only [joinV] at k; first | exact k | (simp only [*, if_true, if_false] at k; exact k) | simpa [*] using k)
    · refine a_iconst (pc := 165) (v := nI 1) dX4_joined_165 (by decide) ?_
      refine a_goto (pc := 166) (tgt := 170) dX4_joined_166 (by decide) ?_
      exact a_iret (pc := 170) dX4_joined_170 rfl (zf hz) (by simp only [joinV] at k; first | exact k | (simp only [*, if_true, if_false] at k; exact k) | simpa [*] using k)
  · refine a_iloadn_0 (pc := 0) dX4_joined_0 ?_
    refine a_lookup (pc := 1) (off := 170) (tgt := 171) dX4_joined_1 (by decide) (by decide) (by decide) ?_
    refine a_iloadn_1 (pc := 171) dX4_joined_171 ?_
    refine a_iloadn_2 (pc := 172) dX4_joined_172 ?_
    refine a_icmp_le (pc := 173) (tgt := 180) dX4_joined_173 (by decide) (fun c_173 => ?_) (fun c_173 => ?_)
    · refine a_iconst (pc := 180) (v := nI 0) dX4_joined_180 (by decide) ?_
      exact a_iret (pc := 181) dX4_joined_181 rfl (zf hz) (by simp only [joinV] at k; first | exact k | (simp only [*, if_true, if_false] at k; exact k) | simpa [*] using k)
    · refine a_iconst (pc := 176) (v := nI 1) dX4_joined_176 (by decide) ?_
      refine a_goto (pc := 177) (tgt := 181) dX4_joined_177 (by decide) ?_
      exact a_iret (pc := 181) dX4_joined_181 rfl (zf hz) (by simp only [joinV] at k; first | exact k | (simp only [*, if_true, if_false] at k; exact k) | simpa [*] using k)
  · refine a_iloadn_0 (pc := 0) dX4_joined_0 ?_
    refine a_lookup (pc := 1) (off := 120) (tgt := 121) dX4_joined_1 (by decide) (by decide) (by decide) ?_
    refine a_iloadn_1 (pc := 121) dX4_joined_121 ?_
    refine a_if_ne (pc := 122) (tgt := 129) dX4_joined_122 (by decide) (fun c_122 => ?_) (fun c_122 => ?_)
    · refine a_iconst (pc := 129) (v := nI 1) dX4_joined_129 (by decide) ?_
      refine a_goto (pc := 130) (tgt := 134) dX4_joined_130 (by decide) ?_
      exact a_iret (pc := 134) dX4_joined_134 rfl (zf hz) (by simp only [joinV] at k; first | exact k | (simp only [*, if_true, if_false] at k; exact k) | simpa [*] using k)
    · refine a_iloadn_2 (pc := 125) dX4_joined_125 ?_
      refine a_if_eq (pc := 126) (tgt := 133) dX4_joined_126 (by decide) (fun c_126 => ?_) (fun c_126 => ?_)
      · refine a_iconst (pc := 133) (v := nI 0) dX4_joined_133 (by decide) ?_
        exact a_iret (pc := 134) dX4_joined_134 rfl (zf hz) (by simp only [joinV] at k; first | exact k | (simp only [*, if_true, if_false] at k; exact k) | simpa [*] using k)
      · refine a_iconst (pc := 129) (v := nI 1) dX4_joined_129 (by decide) ?_
        refine a_goto (pc := 130) (tgt := 134) dX4_joined_130 (by decide) ?_
        exact a_iret (pc := 134) dX4_joined_134 rfl (zf hz) (by simp only [joinV] at k; first | exact k | (simp only [*, if_true, if_false] at k; exact k) | simpa [*] using k)
  · refine a_iloadn_0 (pc := 0) dX4_joined_0 ?_
    refine a_lookup (pc := 1) (off := 107) (tgt := 108) dX4_joined_1 (by decide) (by decide) (by decide) ?_
    refine a_iloadn_1 (pc := 108) dX4_joined_108 ?_
    refine a_ineg (pc := 109) dX4_joined_109 ?_
    exact a_iret (pc := 110) dX4_joined_110 rfl (zf hz) (by simp only [joinV] at k; first | exact k | (simp only [*, if_true, if_false] at k; exact k) | simpa [*] using k)

set_option maxRecDepth 100000 in
set_option maxHeartbeats 4000000 in
theorem x_held {G : Cx} {d : Nat} {x : Int32} {h : List va_E} {Q : Option Value → List va_E → Prop} (hd : 1 ≤ d) (hz : gz G = false) (k : ∀ n : Nat, n ≤ 9 → nI n = (if x < 0 then 0 else if 9 < x then 9 else x) → Q (some (.int (nI n))) h) : AM G yX2_held cX2_held 1 (some .int) d 0 0 [.int x] h Q := by
  obtain ⟨d, rfl, he⟩ := dpos hd
  refine AM.of [some (.int x)] pnX2 (Nat.le_of_ble_eq_true rfl) (by simp [lsub, lvI, Value.category]) ?_
  refine a_iconst (pc := 0) (v := nI 0) dX2_held_0 (by decide) ?_
  refine a_bipush (pc := 1) (v := nI 9) dX2_held_1 (by decide) ?_
  refine a_iloadn_0 (pc := 3) dX2_held_3 ?_
  refine a_mminR (pc := 4) dX2_held_4 w_563 (Nat.le_of_ble_eq_true rfl) ?_
  refine a_mmaxR (pc := 7) dX2_held_7 w_566 (Nat.le_of_ble_eq_true rfl) ?_
  obtain ⟨n, hn, e1, e2⟩ := held_nI x
  refine a_topi (nI n) e1 ?_
  exact a_iret (pc := 10) dX2_held_10 rfl (zf hz) (k n hn e2)
