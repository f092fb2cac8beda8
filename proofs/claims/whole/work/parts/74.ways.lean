/-! WAYS: walks through open rooms -/
theorem ctn_pos {p : Nat → Bool} : ∀ n, 0 < ctn p n ↔ ∃ i, i < n ∧ p i = true
  | 0 => ⟨fun h => absurd h (Nat.lt_irrefl 0), fun ⟨i, hi, _⟩ => absurd hi (Nat.not_lt_zero i)⟩
  | n + 1 => by
    have ih := ctn_pos (p := p) n
    rw [ctn]
    constructor
    · intro h
      cases hq : p n with
      | true => exact ⟨n, Nat.lt_succ_self n, hq⟩
      | false =>
        rw [hq] at h
        obtain ⟨i, hi, q⟩ := ih.mp (by simpa using h)
        exact ⟨i, by omega, q⟩
    · rintro ⟨i, hi, q⟩
      by_cases e : i = n
      · subst e
        rw [q]
        have : true.toNat = 1 := rfl
        omega
      · have := ih.mpr ⟨i, by omega, q⟩
        omega
def nb (S : Nat → Bool) (k : Nat) : Bool := decide (0 < lB S k)
theorem nb_iff {S : Nat → Bool} {k : Nat} : nb S k = true ↔ ∃ i, i < 36 ∧ S i = true ∧ bes k i = true := by
  unfold nb lB
  rw [decide_eq_true_iff, ctn_pos]
  constructor
  · rintro ⟨i, hi, q⟩
    exact ⟨i, hi, by simpa using q⟩
  · rintro ⟨i, hi, q1, q2⟩
    exact ⟨i, hi, by rw [q1, q2]; rfl⟩
theorem nb_ways {S : Nat → Bool} {k : Nat} (hk : k < 36) : nb S k = true ↔ ∃ w o, w < 4 ∧ bsd k w = some o ∧ S o = true := by
  unfold nb
  rw [decide_eq_true_iff, lB_ways S hk]
  have key : ∀ w, 0 < lW S k w ↔ ∃ o, bsd k w = some o ∧ S o = true := by
    intro w
    unfold lW
    cases h : bsd k w with
    | none => exact ⟨fun q => absurd q (Nat.lt_irrefl 0), fun ⟨o, q, _⟩ => by cases q⟩
    | some o =>
      show 0 < (S o).toNat ↔ _
      cases hs : S o with
      | true => exact ⟨fun _ => ⟨o, rfl, hs⟩, fun _ => Nat.zero_lt_one⟩
      | false => exact ⟨fun q => absurd q (Nat.lt_irrefl 0), fun ⟨o', q, q2⟩ => by cases q; rw [hs] at q2; cases q2⟩
  have k0 := key 0
  have k1 := key 1
  have k2 := key 2
  have k3 := key 3
  constructor
  · intro h
    by_cases h0 : 0 < lW S k 0
    · obtain ⟨o, q⟩ := k0.mp h0; exact ⟨0, o, by decide, q⟩
    by_cases h1 : 0 < lW S k 1
    · obtain ⟨o, q⟩ := k1.mp h1; exact ⟨1, o, by decide, q⟩
    by_cases h2 : 0 < lW S k 2
    · obtain ⟨o, q⟩ := k2.mp h2; exact ⟨2, o, by decide, q⟩
    obtain ⟨o, q⟩ := k3.mp (by omega); exact ⟨3, o, by decide, q⟩
  · rintro ⟨w, o, hw, q⟩
    rcases (show w = 0 ∨ w = 1 ∨ w = 2 ∨ w = 3 by omega) with rfl | rfl | rfl | rfl
    · have := k0.mpr ⟨o, q⟩; omega
    · have := k1.mpr ⟨o, q⟩; omega
    · have := k2.mpr ⟨o, q⟩; omega
    · have := k3.mpr ⟨o, q⟩; omega
theorem bes_sym {r i : Nat} (hr : r < 36) (hi : i < 36) : bes r i = bes i r := by
  have : ∀ r i : Fin 36, bes r i = bes i r := by decide +kernel
  exact this ⟨r, hr⟩ ⟨i, hi⟩
def itr (Op B : Nat → Bool) : Nat → Nat → Bool
  | 0 => fun k => Op k && B k
  | n + 1 => fun k => Op k && nb (itr Op B n) k
def icl (Op B : Nat → Bool) : Nat → Nat → Bool
  | 0 => fun _ => false
  | n + 1 => fun k => icl Op B n k || itr Op B n k
def fr (Op B : Nat → Bool) (n k : Nat) : Bool := itr Op B n k && !icl Op B n k
section Ways
variable {Op B C : Nat → Bool} {k n m : Nat}
theorem itr_op (h : itr Op B n k = true) : Op k = true := by
  cases n with
  | zero => exact (Bool.and_eq_true_iff.mp (show (Op k && B k) = true from h)).1
  | succ n => exact (Bool.and_eq_true_iff.mp (show (Op k && nb (itr Op B n) k) = true from h)).1
theorem itr_s : itr Op B (n + 1) k = true ↔ Op k = true ∧ ∃ i, i < 36 ∧ itr Op B n i = true ∧ bes k i = true := by
  show (Op k && nb (itr Op B n) k) = true ↔ _
  rw [Bool.and_eq_true_iff, nb_iff]
theorem itr_shift : ∀ n m, (∃ k, k < 36 ∧ itr Op B n k = true ∧ itr Op C m k = true) → ∃ k, k < 36 ∧ itr Op B 0 k = true ∧ itr Op C (n + m) k = true
  | 0, m, h => by rw [Nat.zero_add]; exact h
  | n + 1, m, ⟨k, hk, h1, h2⟩ => by
    obtain ⟨ho, i, hi, q1, q2⟩ := itr_s.mp h1
    have := itr_shift n (m + 1) ⟨i, hi, q1, itr_s.mpr ⟨itr_op q1, k, hk, h2, by rw [bes_sym hi hk]; exact q2⟩⟩
    rw [show n + 1 + m = n + (m + 1) by omega]
    exact this
theorem itr_swap (h : ∃ k, k < 36 ∧ itr Op B n k = true ∧ C k = true) : ∃ k, k < 36 ∧ itr Op C n k = true ∧ B k = true := by
  obtain ⟨k, hk, h1, h2⟩ := h
  obtain ⟨i, hi, q1, q2⟩ := itr_shift (Op := Op) (B := B) (C := C) n 0 ⟨k, hk, h1, by show (Op k && C k) = true; rw [itr_op h1, h2]; rfl⟩
  exact ⟨i, hi, q2, (Bool.and_eq_true_iff.mp (show (Op i && B i) = true from q1)).2⟩
theorem icl_iff : ∀ n, icl Op B n k = true ↔ ∃ m, m < n ∧ itr Op B m k = true
  | 0 => ⟨fun h => (by cases h), fun ⟨m, hm, _⟩ => absurd hm (Nat.not_lt_zero m)⟩
  | n + 1 => by
    show (icl Op B n k || itr Op B n k) = true ↔ _
    rw [Bool.or_eq_true_iff, icl_iff n]
    constructor
    · rintro (⟨m, hm, q⟩ | q)
      · exact ⟨m, by omega, q⟩
      · exact ⟨n, Nat.lt_succ_self n, q⟩
    · rintro ⟨m, hm, q⟩
      by_cases e : m = n
      · subst e; exact Or.inr q
      · exact Or.inl ⟨m, by omega, q⟩
theorem fr_iff : fr Op B n k = true ↔ itr Op B n k = true ∧ icl Op B n k = false := by
  unfold fr
  rw [Bool.and_eq_true_iff, Bool.not_eq_true']
theorem icl_fr : ∀ n, icl Op B n k = true → ∃ m, m < n ∧ fr Op B m k = true
  | 0, h => by cases h
  | n + 1, h => by
    cases hc : icl Op B n k with
    | true =>
      obtain ⟨m, hm, q⟩ := icl_fr n hc
      exact ⟨m, by omega, q⟩
    | false =>
      have h : (icl Op B n k || itr Op B n k) = true := h
      rw [hc, Bool.false_or] at h
      exact ⟨n, Nat.lt_succ_self n, fr_iff.mpr ⟨h, hc⟩⟩
theorem fr_uniq (h1 : fr Op B m k = true) (h2 : fr Op B n k = true) : m = n := by
  obtain ⟨a1, a2⟩ := fr_iff.mp h1
  obtain ⟨b1, b2⟩ := fr_iff.mp h2
  rcases Nat.lt_trichotomy m n with h | h | h
  · rw [(icl_iff n).mpr ⟨m, h, a1⟩] at b2; cases b2
  · exact h
  · rw [(icl_iff m).mpr ⟨n, h, b1⟩] at a2; cases a2
theorem fr_s : fr Op B (n + 1) k = true ↔ Op k = true ∧ nb (fr Op B n) k = true ∧ icl Op B (n + 1) k = false := by
  rw [fr_iff, itr_s, nb_iff]
  constructor
  · rintro ⟨⟨ho, i, hi, q1, q2⟩, hc⟩
    refine ⟨ho, ⟨i, hi, fr_iff.mpr ⟨q1, ?_⟩, q2⟩, hc⟩
    cases he : icl Op B n i with
    | false => rfl
    | true =>
      obtain ⟨m, hm, q3⟩ := (icl_iff n).mp he
      rw [(icl_iff (n + 1)).mpr ⟨m + 1, by omega, itr_s.mpr ⟨ho, i, hi, q3, q2⟩⟩] at hc
      cases hc
  · rintro ⟨ho, ⟨i, hi, q1, q2⟩, hc⟩
    exact ⟨⟨ho, i, hi, (fr_iff.mp q1).1, q2⟩, hc⟩
theorem fr_none (h : ∀ k, k < 36 → fr Op B n k = false) : ∀ m, n ≤ m → ∀ k, k < 36 → fr Op B m k = false
  | 0, hm, k, hk => by
    obtain rfl : n = 0 := by omega
    exact h k hk
  | m + 1, hm, k, hk => by
    by_cases e : n = m + 1
    · subst e; exact h k hk
    · cases hf : fr Op B (m + 1) k with
      | false => rfl
      | true =>
        obtain ⟨_, q, _⟩ := fr_s.mp hf
        obtain ⟨i, hi, q1, _⟩ := nb_iff.mp q
        rw [fr_none h m (by omega) i hi] at q1
        cases q1
theorem itr_icl (h : ∀ k, k < 36 → fr Op B n k = false) (hk : k < 36) (hm : itr Op B m k = true) : icl Op B n k = true := by
  obtain ⟨m', h1, h2⟩ := icl_fr (m + 1) ((icl_iff (m + 1)).mpr ⟨m, Nat.lt_succ_self m, hm⟩)
  refine (icl_iff n).mpr ⟨m', ?_, (fr_iff.mp h2).1⟩
  rcases Nat.lt_or_ge m' n with q | q
  · exact q
  · rw [fr_none h m' q k hk] at h2; cases h2
end Ways
theorem ctn_mono {p q : Nat → Bool} (h : ∀ k, p k = true → q k = true) : ∀ n, ctn p n ≤ ctn q n
  | 0 => Nat.le_refl _
  | n + 1 => by
    have ih := ctn_mono h n
    rw [ctn, ctn]
    cases hp : p n with
    | false => have : false.toNat = 0 := rfl; omega
    | true => rw [h n hp]; omega
theorem ctn_more {p q : Nat → Bool} (h : ∀ k, p k = true → q k = true) {k : Nat} (h1 : p k = false) (h2 : q k = true) : ∀ n, k < n → ctn p n + 1 ≤ ctn q n
  | 0, hk => absurd hk (Nat.not_lt_zero k)
  | n + 1, hk => by
    rw [ctn, ctn]
    by_cases e : k = n
    · subst e
      have := ctn_mono h k
      rw [h1, h2]
      have e1 : false.toNat = 0 := rfl
      have e2 : true.toNat = 1 := rfl
      omega
    · have ih := ctn_more h h1 h2 n (by omega)
      cases hp : p n with
      | false => have : false.toNat = 0 := rfl; omega
      | true => rw [h n hp]; omega
theorem ctn_full {p : Nat → Bool} : ∀ n, n ≤ ctn p n → ∀ k, k < n → p k = true
  | 0, _, k, hk => absurd hk (Nat.not_lt_zero k)
  | n + 1, h, k, hk => by
    rw [ctn] at h
    have := ctn_le p n
    cases hp : p n with
    | false =>
      rw [hp] at h
      have : false.toNat = 0 := rfl
      omega
    | true =>
      rw [hp] at h
      have e2 : true.toNat = 1 := rfl
      by_cases e : k = n
      · rw [e]; exact hp
      · exact ctn_full n (by omega) k (by omega)
theorem icl_cnt {Op B : Nat → Bool} : ∀ n, (∀ m, m < n → ∃ k, k < 36 ∧ fr Op B m k = true) → n ≤ ctn (icl Op B n) 36
  | 0, _ => Nat.zero_le _
  | n + 1, h => by
    have ih := icl_cnt n (fun m hm => h m (by omega))
    obtain ⟨k, hk, q⟩ := h n (Nat.lt_succ_self n)
    obtain ⟨q1, q2⟩ := fr_iff.mp q
    have := ctn_more (p := icl Op B n) (q := icl Op B (n + 1)) (fun k hk => by show (icl Op B n k || itr Op B n k) = true; rw [hk]; rfl) q2 (by show (icl Op B n k || itr Op B n k) = true; rw [q1]; simp) 36 hk
    omega
theorem fr_all {Op B : Nat → Bool} {n k : Nat} (hk : k < 36) (h : fr Op B n k = true) : ∀ m, m < n → ∃ i, i < 36 ∧ fr Op B m i = true := by
  intro m hm
  apply Classical.byContradiction
  intro q
  have : ∀ i, i < 36 → fr Op B m i = false := fun i hi => by
    cases e : fr Op B m i with
    | false => rfl
    | true => exact absurd ⟨i, hi, e⟩ q
  rw [fr_none this n (by omega) k hk] at h
  cases h
theorem fr_lt {Op B : Nat → Bool} {n k : Nat} (hk : k < 36) (h : fr Op B n k = true) : n < 36 := by
  have := icl_cnt (Op := Op) (B := B) (n + 1) (fun m hm => by
    by_cases e : m = n
    · subst e; exact ⟨k, hk, h⟩
    · exact fr_all hk h m (by omega))
  have := ctn_le (icl Op B (n + 1)) 36
  omega
def NWY (Op Ga : Nat → Bool) (r : Nat) : Prop := ∀ n, itr Op Ga n r = false
def WL (Op Ga : Nat → Bool) (r y : Nat) : Prop := (y = 0 ∧ NWY Op Ga r) ∨ ∃ n, y = n + 1 ∧ n < 36 ∧ fr Op Ga n r = true
theorem WL_uniq {Op Ga : Nat → Bool} {r y z : Nat} (h1 : WL Op Ga r y) (h2 : WL Op Ga r z) : y = z := by
  rcases h1 with ⟨rfl, h1⟩ | ⟨n, rfl, hn, h1⟩ <;> rcases h2 with ⟨rfl, h2⟩ | ⟨m, rfl, hm, h2⟩
  · rfl
  · have := (fr_iff.mp h2).1; rw [h1 m] at this; cases this
  · have := (fr_iff.mp h1).1; rw [h2 n] at this; cases this
  · rw [fr_uniq h1 h2]
theorem WL_0 {Op Ga : Nat → Bool} {r y : Nat} (h : WL Op Ga r y) : y = 0 ↔ NWY Op Ga r := by
  rcases h with ⟨rfl, h⟩ | ⟨n, rfl, hn, h⟩
  · exact ⟨fun _ => h, fun _ => rfl⟩
  · exact ⟨fun q => absurd q (Nat.succ_ne_zero n), fun q => by have := (fr_iff.mp h).1; rw [q n] at this; cases this⟩
theorem WL_le {Op Ga : Nat → Bool} {r y : Nat} (h : WL Op Ga r y) : y ≤ 36 := by
  rcases h with ⟨rfl, h⟩ | ⟨n, rfl, hn, h⟩ <;> omega
/-! CUT -/
def mn1 (Op : Nat → Bool) (i : Nat) : Nat → Bool := fun k => Op k && !decide (k = i)
def mn (Op : Nat → Bool) (l : List Nat) : Nat → Bool := fun k => Op k && !decide (k ∈ l)
def CUF (Ga : Nat → Bool) (r n f : Nat) (Op : Nat → Bool) : Prop := ∃ l : List Nat, l.length ≤ n ∧ (∀ k, k ∈ l → f ≤ k ∧ k < 36 ∧ k ≠ r ∧ Op k = true) ∧ NWY (mn Op l) Ga r
theorem mn_nil (Op : Nat → Bool) : mn Op [] = Op := by funext k; simp [mn]
theorem mn_cons (Op : Nat → Bool) (i : Nat) (l : List Nat) : mn (mn1 Op i) l = mn Op (i :: l) := by
  funext k
  unfold mn mn1
  by_cases e : k = i <;> by_cases q : k ∈ l <;> simp [e, q]
theorem mn_rm (Op : Nat → Bool) (i : Nat) (l : List Nat) (h : i ∈ l) : mn (mn1 Op i) (l.filter (fun x => decide (x ≠ i))) = mn Op l := by
  funext k
  unfold mn mn1
  by_cases e : k = i
  · subst e; simp [h]
  · by_cases q : k ∈ l <;> simp [e, q]
theorem filt_lt (i : Nat) : ∀ l : List Nat, i ∈ l → (l.filter (fun x => decide (x ≠ i))).length + 1 ≤ l.length
  | [], h => by cases h
  | x :: l, h => by
    by_cases e : x = i
    · rw [List.filter_cons_of_neg (by simp [e])]
      exact Nat.succ_le_succ (List.length_filter_le _ _)
    · rw [List.filter_cons_of_pos (by simp [e])]
      have : i ∈ l := by
        cases h with
        | head => exact absurd rfl e
        | tail _ h => exact h
      exact Nat.succ_le_succ (filt_lt i l this)
section Cuts
variable {Ga Op : Nat → Bool} {r n f i : Nat}
theorem CUF_now (h : NWY Op Ga r) : CUF Ga r n f Op := ⟨[], Nat.zero_le _, fun k hk => (by cases hk), (by rw [mn_nil]; exact h)⟩
theorem CUF_0 (h : CUF Ga r 0 f Op) : NWY Op Ga r := by
  obtain ⟨l, h1, h2, h3⟩ := h
  have : l = [] := List.length_eq_zero_iff.mp (by omega)
  rw [this, mn_nil] at h3
  exact h3
theorem CUF_36 (h : CUF Ga r n 36 Op) : NWY Op Ga r := by
  obtain ⟨l, h1, h2, h3⟩ := h
  cases l with
  | nil => rw [mn_nil] at h3; exact h3
  | cons x l =>
    have := h2 x List.mem_cons_self
    omega
theorem CUF_s {f' : Nat} (hi : f ≤ i ∧ i < 36 ∧ i ≠ r ∧ Op i = true) (hf : f ≤ f') (h : CUF Ga r n f' (mn1 Op i)) : CUF Ga r (n + 1) f Op := by
  obtain ⟨l, h1, h2, h3⟩ := h
  refine ⟨i :: l, by simp; omega, fun k hk => ?_, by rw [← mn_cons]; exact h3⟩
  cases hk with
  | head => exact hi
  | tail _ hk =>
    obtain ⟨a1, a2, a3, a4⟩ := h2 k hk
    exact ⟨by omega, a2, a3, by unfold mn1 at a4; exact (Bool.and_eq_true_iff.mp a4).1⟩
theorem CUF_next (hn : ¬ ((i ≠ r ∧ Op i = true) ∧ CUF Ga r n (i + 1) (mn1 Op i))) (h : CUF Ga r (n + 1) i Op) : CUF Ga r (n + 1) (i + 1) Op := by
  obtain ⟨l, h1, h2, h3⟩ := h
  by_cases q : i ∈ l
  · exfalso
    obtain ⟨a1, a2, a3, a4⟩ := h2 i q
    refine hn ⟨⟨a3, a4⟩, l.filter (fun x => decide (x ≠ i)), by have := filt_lt i l q; omega, fun k hk => ?_, by rw [mn_rm Op i l q]; exact h3⟩
    obtain ⟨b1, b2⟩ := List.mem_filter.mp hk
    obtain ⟨c1, c2, c3, c4⟩ := h2 k b1
    have b2 : k ≠ i := by simpa using b2
    refine ⟨by omega, c2, c3, ?_⟩
    unfold mn1
    rw [c4, decide_eq_false b2]; rfl
  · refine ⟨l, h1, fun k hk => ?_, h3⟩
    obtain ⟨c1, c2, c3, c4⟩ := h2 k hk
    have : k ≠ i := fun e => q (e ▸ hk)
    exact ⟨by omega, c2, c3, c4⟩
end Cuts
/-- a shortest way from r, as the search from r lays it -/
def PTH (Op Ga : Nat → Bool) (r s : Nat) (P : Nat → Nat) : Prop := (∀ j, j ≤ s → P j < 36 ∧ fr Op (fun k => decide (k = r)) j (P j) = true) ∧ (∀ j, j < s → bes (P (j + 1)) (P j) = true) ∧ Ga (P s) = true
section Pths
variable {Op Ga : Nat → Bool} {r s : Nat} {P : Nat → Nat}
theorem PTH.zero (H : PTH Op Ga r s P) : P 0 = r := by
  have h := (fr_iff.mp (H.1 0 (Nat.zero_le s)).2).1
  have h : (Op (P 0) && decide (P 0 = r)) = true := h
  simpa using (Bool.and_eq_true_iff.mp h).2
theorem PTH.inj (H : PTH Op Ga r s P) {i j : Nat} (hi : i ≤ s) (hj : j ≤ s) (h : P i = P j) : i = j := by
  have h1 := (H.1 i hi).2
  rw [h] at h1
  exact fr_uniq h1 (H.1 j hj).2
theorem PTH.hit (H : PTH Op Ga r s P) {l : List Nat} (h : NWY (mn Op l) Ga r) : ∃ j, j ≤ s ∧ P j ∈ l := by
  apply Classical.byContradiction
  intro q
  have hn : ∀ j, j ≤ s → mn Op l (P j) = true := fun j hj => by
    unfold mn
    rw [itr_op (fr_iff.mp (H.1 j hj).2).1, decide_eq_false (fun e => q ⟨j, hj, e⟩)]; rfl
  have key : ∀ j, j ≤ s → itr (mn Op l) Ga j (P (s - j)) = true := by
    intro j
    induction j with
    | zero =>
      intro _
      show (mn Op l (P s) && Ga (P s)) = true
      rw [hn s (Nat.le_refl s), H.2.2]; rfl
    | succ j ih =>
      intro hj
      refine itr_s.mpr ⟨hn _ (by omega), P (s - j), (H.1 _ (by omega)).1, ih (by omega), ?_⟩
      have := H.2.1 (s - (j + 1)) (by omega)
      rw [show s - (j + 1) + 1 = s - j by omega] at this
      rw [bes_sym (H.1 _ (by omega)).1 (H.1 _ (by omega)).1]
      exact this
  have := key s (Nat.le_refl s)
  rw [Nat.sub_self, H.zero, h s] at this
  cases this
theorem PTH.WL (H : PTH Op Ga r s P) (hm : ∀ m, m < s → ∀ k, k < 36 → fr Op (fun k => decide (k = r)) m k = true → Ga k = false) : WL Op Ga r (s + 1) := by
  have ps := H.1 s (Nat.le_refl s)
  refine Or.inr ⟨s, rfl, fr_lt ps.1 ps.2, fr_iff.mpr ⟨?_, ?_⟩⟩
  · obtain ⟨k, hk, q1, q2⟩ := itr_swap (Op := Op) (B := fun k => decide (k = r)) (C := Ga) (n := s) ⟨P s, ps.1, (fr_iff.mp ps.2).1, H.2.2⟩
    have : k = r := by simpa using q2
    rw [← this]; exact q1
  · cases hc : icl Op Ga s r with
    | false => rfl
    | true =>
      exfalso
      obtain ⟨m, h1, h2⟩ := (icl_iff s).mp hc
      have hr : r < 36 := by rw [← H.zero]; exact (H.1 0 (Nat.zero_le s)).1
      obtain ⟨k, hk, q1, q2⟩ := itr_swap (Op := Op) (B := Ga) (C := fun k => decide (k = r)) (n := m) ⟨r, hr, h2, decide_eq_true rfl⟩
      obtain ⟨m', h3, h4⟩ := icl_fr (m + 1) ((icl_iff (m + 1)).mpr ⟨m, Nat.lt_succ_self m, q1⟩)
      rw [hm m' (by omega) k hk h4] at q2
      cases q2
theorem no_way {e : Nat} (hr : r < 36) (h0 : ∀ k, k < 36 → fr Op (fun k => decide (k = r)) e k = false) (hm : ∀ m, m < e → ∀ k, k < 36 → fr Op (fun k => decide (k = r)) m k = true → Ga k = false) : NWY Op Ga r := by
  intro n
  cases hn : itr Op Ga n r with
  | false => rfl
  | true =>
    exfalso
    obtain ⟨k, hk, q1, q2⟩ := itr_swap (Op := Op) (B := Ga) (C := fun k => decide (k = r)) (n := n) ⟨r, hr, hn, decide_eq_true rfl⟩
    obtain ⟨m', h3, h4⟩ := icl_fr (n + 1) ((icl_iff (n + 1)).mpr ⟨n, Nat.lt_succ_self n, q1⟩)
    rcases Nat.lt_or_ge m' e with z | z
    · rw [hm m' z k hk h4] at q2; cases q2
    · rw [fr_none h0 m' z k hk] at h4; cases h4
end Pths
theorem ctn_rm {p : Nat → Bool} {k : Nat} (h : p k = true) : ∀ n, k < n → ctn p n = ctn (fun i => p i && !decide (i = k)) n + 1
  | 0, hk => absurd hk (Nat.not_lt_zero k)
  | n + 1, hk => by
    rw [ctn, ctn]
    by_cases e : k = n
    · subst e
      rw [ctn_congr (p := p) (q := fun i => p i && !decide (i = k)) (n := k) (fun i hi => by rw [decide_eq_false (by omega)]; simp), h]
      simp
    · rw [ctn_rm h n (by omega), decide_eq_false (show ¬ n = k by omega)]
      simp only [Bool.not_false, Bool.and_true]
      omega
theorem ctn_P (s : Nat) : ∀ (P : Nat → Nat) (W : Nat → Bool), (∀ j, j ≤ s → P j < 36) → (∀ i j, i ≤ s → j ≤ s → P i = P j → i = j) → (∀ k, k < 36 → (W k = true ↔ ∃ j, j ≤ s ∧ P j = k)) → ctn W 36 = s + 1 := by
  induction s with
  | zero =>
    intro P W h1 h2 h3
    rw [ctn_rm (k := P 0) ((h3 _ (h1 0 (Nat.le_refl 0))).mpr ⟨0, Nat.le_refl 0, rfl⟩) 36 (h1 0 (Nat.le_refl 0))]
    have : ctn (fun i => W i && !decide (i = P 0)) 36 = 0 := by
      apply Nat.eq_zero_of_not_pos
      intro q
      obtain ⟨i, hi, q⟩ := (ctn_pos 36).mp q
      have q : W i = true ∧ ¬ i = P 0 := by simpa using q
      obtain ⟨j, hj, e⟩ := (h3 i hi).mp q.1
      have : j = 0 := by omega
      rw [this] at e
      exact q.2 e.symm
    omega
  | succ s ih =>
    intro P W h1 h2 h3
    rw [ctn_rm (k := P (s + 1)) ((h3 _ (h1 (s + 1) (Nat.le_refl _))).mpr ⟨s + 1, Nat.le_refl _, rfl⟩) 36 (h1 _ (Nat.le_refl _))]
    rw [ih P (fun i => W i && !decide (i = P (s + 1))) (fun j hj => h1 j (by omega)) (fun i j hi hj => h2 i j (by omega) (by omega)) (fun k hk => ?_)]
    constructor
    · intro q
      have q : W k = true ∧ ¬ k = P (s + 1) := by simpa using q
      obtain ⟨j, hj, e⟩ := (h3 k hk).mp q.1
      refine ⟨j, ?_, e⟩
      by_cases z : j = s + 1
      · rw [z] at e; exact absurd e.symm q.2
      · omega
    · rintro ⟨j, hj, e⟩
      show (W k && !decide (k = P (s + 1))) = true
      rw [(h3 k hk).mpr ⟨j, by omega, e⟩, decide_eq_false (fun z => by have := h2 j (s + 1) (by omega) (Nat.le_refl _) (e.trans z); omega)]
      rfl
/-- who is open, where dark steps in -/
def opV (v : Cv) : Nat → Bool := fun k => !cK v k && !clit v k
def opC (v : Cv) (c : Nat → Bool) : Nat → Bool := fun k => opV v k && !c k
def ga (v : Cv) : Nat → Bool := fun k => decide (0 < dB (cK v) k)
theorem opC_up (v : Cv) (c : Nat → Bool) (i : Nat) : opC v (va_up c i true) = mn1 (opC v c) i := by
  funext k
  unfold opC mn1 va_up
  by_cases e : k = i <;> simp [e]
theorem opC_0 (v : Cv) {c : Nat → Bool} (h : ∀ k, k < 36 → c k = false) {k : Nat} (hk : k < 36) : opC v c k = opV v k := by
  unfold opC
  rw [h k hk]; simp
theorem itr_congr {Op Op' B : Nat → Bool} (h : ∀ k, k < 36 → Op k = Op' k) : ∀ n k, k < 36 → itr Op B n k = itr Op' B n k
  | 0, k, hk => by show (Op k && B k) = (Op' k && B k); rw [h k hk]
  | n + 1, k, hk => by
    rw [Bool.eq_iff_iff, itr_s, itr_s, h k hk]
    constructor
    · rintro ⟨a, i, hi, q1, q2⟩; exact ⟨a, i, hi, by rw [← itr_congr h n i hi]; exact q1, q2⟩
    · rintro ⟨a, i, hi, q1, q2⟩; exact ⟨a, i, hi, by rw [itr_congr h n i hi]; exact q1, q2⟩
