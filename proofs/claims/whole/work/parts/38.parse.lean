/-! THE TEXTS: what a text means, place by place -/
abbrev En : Type := Nat → Int32
abbrev Ex : Type := En → Int32
def lvO (c : Nat) : Nat := if c = 124 then 0 else if c = 38 then 1 else if c = 60 ∨ c = 61 ∨ c = 62 then 2 else if c = 43 ∨ c = 45 then 3 else if c = 42 ∨ c = 47 ∨ c = 37 then 4 else 9
def nmO (c : Nat) : Option Nat := if c = 100 then some 0 else if c = 108 then some 1 else if c = 103 then some 2 else if c = 99 then some 3 else if c = 119 then some 4 else if c = 104 then some 5 else none
def dgO (c : Nat) : Bool := decide (48 ≤ c) && decide (c ≤ 57)
def nums (c : Nat → Nat) : Nat → Nat → Nat → Nat × Nat
  | 0, p, v => (p, v)
  | k + 1, p, v => if dgO (c p) = true then nums c k (p + 1) (v * 10 + (c p - 48)) else (p, v)
abbrev PR : Type := Option (Nat ⊕ (Nat × Ex))
def ps (c : Nat → Nat) : Nat → Nat → Nat → Nat → Ex → PR
  | 0, _, _, _, _ => none
  | k + 1, md, o, p, acc =>
    if md < 5 then
      match ps c k (md + 1) o p acc with
      | some (.inr (q, e)) => ps c k (10 + md) o q e
      | some (.inl f) => some (.inl f)
      | none => none
    else if md < 10 then
      if dgO (c p) = true then some (.inr ((nums c 4 p 0).1, fun _ => nI (nums c 4 p 0).2))
      else match nmO (c p) with
        | some j => some (.inr (p + 1, fun nm => nm j))
        | none =>
          if o < 6 ∧ c p = 40 then
            match ps c k 0 (o + 1) (p + 1) acc with
            | some (.inr (q, e)) => if c q = 41 then some (.inr (q + 1, e)) else some (.inl q)
            | some (.inl f) => some (.inl f)
            | none => none
          else if o < 6 ∧ (c p = 33 ∨ c p = 45) then
            match ps c k 5 (o + 1) (p + 1) acc with
            | some (.inr (q, e)) => some (.inr (q, fun nm => joinV (if c p = 45 then 126 else 33) (e nm) (e nm)))
            | some (.inl f) => some (.inl f)
            | none => none
          else some (.inl p)
    else
      if lvO (c p) = md - 10 then
        match ps c k (md - 9) o (p + 1) acc with
        | some (.inr (q, e)) => if md = 12 then some (.inr (q, fun nm => joinV (c p) (acc nm) (e nm))) else ps c k md o q (fun nm => joinV (c p) (acc nm) (e nm))
        | some (.inl f) => some (.inl f)
        | none => none
      else some (.inr (p, acc))
theorem nums_le (c : Nat → Nat) (n : Nat) (hc : ∀ i, n ≤ i → c i = 0) : ∀ k p v, p ≤ n → p ≤ (nums c k p v).1 ∧ (nums c k p v).1 ≤ n ∧ (nums c k p v).2 < (v + 1) * 10 ^ k
  | 0, p, v, h => by simp [nums, h]
  | k + 1, p, v, h => by
    rw [nums]
    by_cases e : dgO (c p) = true
    · rw [if_pos e]
      have e2 : 48 ≤ c p ∧ c p ≤ 57 := by simpa [dgO] using e
      have e3 : p < n := by
        rcases Nat.lt_or_ge p n with q | q
        · exact q
        · have := hc p q; omega
      obtain ⟨h1, h2, h3⟩ := nums_le c n hc k (p + 1) (v * 10 + (c p - 48)) (by omega)
      refine ⟨by omega, h2, Nat.lt_of_lt_of_le h3 ?_⟩
      rw [Nat.pow_succ, Nat.mul_comm (10 ^ k) 10, ← Nat.mul_assoc]
      exact Nat.mul_le_mul_right _ (by omega)
    · rw [if_neg e]
      refine ⟨Nat.le_refl _, h, ?_⟩
      have : 1 ≤ 10 ^ (k + 1) := Nat.pow_pos (by decide)
      have h2 : (v + 1) * 1 ≤ (v + 1) * 10 ^ (k + 1) := Nat.mul_le_mul_left _ this
      show v < (v + 1) * 10 ^ (k + 1)
      omega
theorem nums_1 {c : Nat → Nat} {p v k : Nat} (e : dgO (c p) = true) {n : Nat} (hc : ∀ i, n ≤ i → c i = 0) (hp : p ≤ n) : p < (nums c (k + 1) p v).1 := by
  rw [nums, if_pos e]
  have e2 : 48 ≤ c p ∧ c p ≤ 57 := by simpa [dgO] using e
  have e3 : p < n := by
    rcases Nat.lt_or_ge p n with q | q
    · exact q
    · have := hc p q; omega
  have := (nums_le c n hc k (p + 1) (v * 10 + (c p - 48)) (by omega)).1
  omega
theorem lvO_0 : lvO 0 = 9 := rfl
theorem lvO_lt {c : Nat → Nat} {n p : Nat} (hc : ∀ i, n ≤ i → c i = 0) (h : lvO (c p) < 5) : p < n := by
  rcases Nat.lt_or_ge p n with q | q
  · exact q
  · rw [hc p q] at h; exact absurd h (by decide)
theorem ch_lt {c : Nat → Nat} {n p : Nat} (hc : ∀ i, n ≤ i → c i = 0) (h : 0 < c p) : p < n := by
  rcases Nat.lt_or_ge p n with q | q
  · exact q
  · rw [hc p q] at h; exact absurd h (by decide)
def PB (n p md : Nat) (r : Nat ⊕ (Nat × Ex)) : Prop := match r with
  | .inr (q, _) => q ≤ n ∧ p ≤ q ∧ (md ≤ 5 → p < q)
  | .inl f => f ≤ n ∧ p ≤ f
abbrev wt (md : Nat) : Nat := if md ≤ 5 then 8 - md else 2
set_option maxHeartbeats 2000000 in
/-- a text is read to its end, with so much fuel -/
theorem ps_tot (c : Nat → Nat) (n : Nat) (hc : ∀ i, n ≤ i → c i = 0) : ∀ k md o p acc, 16 * (n - p) + wt md < k → p ≤ n → (md ≤ 5 ∨ (10 ≤ md ∧ md ≤ 14)) → ∃ r, ps c k md o p acc = some r ∧ PB n p md r := by
  intro k
  induction k with
  | zero => intro md o p acc h; exact absurd h (Nat.not_lt_zero _)
  | succ k ih =>
    intro md o p acc hk hp hmd
    by_cases m5 : md < 5
    · rw [ps, if_pos m5]
      have w1 : wt md = 8 - md := if_pos (by omega)
      have w2 : wt (md + 1) = 7 - md := (if_pos (by omega)).trans (by omega)
      obtain ⟨r, hr, hb⟩ := ih (md + 1) o p acc (by omega) hp (by omega)
      rw [hr]
      match r, hb with
      | .inl f, hb => exact ⟨_, rfl, hb⟩
      | .inr (q, e), hb =>
        obtain ⟨b1, b2, b3⟩ := hb
        have b3 := b3 (by omega)
        have w3 : wt (10 + md) = 2 := if_neg (by omega)
        obtain ⟨r2, hr2, hb2⟩ := ih (10 + md) o q e (by omega) b1 (by omega)
        refine ⟨r2, hr2, ?_⟩
        match r2, hb2 with
        | .inl f, hb2 => exact ⟨hb2.1, Nat.le_trans b2 hb2.2⟩
        | .inr (q2, e2), hb2 => exact ⟨hb2.1, Nat.le_trans b2 hb2.2.1, fun _ => Nat.lt_of_lt_of_le b3 hb2.2.1⟩
    · by_cases m10 : md < 10
      · obtain rfl : md = 5 := by omega
        rw [ps, if_neg m5, if_pos m10]
        have w1 : wt 5 = 3 := rfl
        by_cases hd : dgO (c p) = true
        · rw [if_pos hd]
          obtain ⟨a1, a2, -⟩ := nums_le c n hc 4 p 0 hp
          exact ⟨_, rfl, a2, a1, fun _ => nums_1 hd hc hp⟩
        · rw [if_neg hd]
          cases hn : nmO (c p) with
          | some j =>
            have : p < n := by
              rcases Nat.lt_or_ge p n with q | q
              · exact q
              · rw [hc p q, show nmO 0 = none from rfl] at hn; cases hn
            exact ⟨_, rfl, by omega, by omega, fun _ => by omega⟩
          | none =>
            dsimp only
            by_cases hb : o < 6 ∧ c p = 40
            · rw [if_pos hb]
              have hpn : p < n := ch_lt hc (by omega)
              obtain ⟨r, hr, hb⟩ := ih 0 (o + 1) (p + 1) acc (by have : wt 0 = 8 := rfl; omega) (by omega) (by omega)
              rw [hr]
              match r, hb with
              | .inl f, hb => exact ⟨_, rfl, hb.1, by have := hb.2; omega⟩
              | .inr (q, e), hb =>
                obtain ⟨b1, b2, b3⟩ := hb
                dsimp only
                by_cases h41 : c q = 41
                · rw [if_pos h41]
                  have := ch_lt hc (show 0 < c q by omega)
                  exact ⟨_, rfl, by omega, by omega, fun _ => by omega⟩
                · rw [if_neg h41]
                  exact ⟨_, rfl, b1, by omega⟩
            · rw [if_neg hb]
              by_cases hb2 : o < 6 ∧ (c p = 33 ∨ c p = 45)
              · rw [if_pos hb2]
                have hpn : p < n := ch_lt hc (by omega)
                obtain ⟨r, hr, hb⟩ := ih 5 (o + 1) (p + 1) acc (by omega) (by omega) (by omega)
                rw [hr]
                match r, hb with
                | .inl f, hb => exact ⟨_, rfl, hb.1, by have := hb.2; omega⟩
                | .inr (q, e), hb =>
                  obtain ⟨b1, b2, b3⟩ := hb
                  exact ⟨_, rfl, b1, by omega, fun _ => by omega⟩
              · rw [if_neg hb2]
                exact ⟨_, rfl, hp, Nat.le_refl _⟩
      · rw [ps, if_neg m5, if_neg m10]
        have w1 : wt md = 2 := if_neg (by omega)
        by_cases hl : lvO (c p) = md - 10
        · rw [if_pos hl]
          have hpn : p < n := lvO_lt hc (by omega)
          have w2 : wt (md - 9) = 8 - (md - 9) := if_pos (by omega)
          obtain ⟨r, hr, hb⟩ := ih (md - 9) o (p + 1) acc (by omega) (by omega) (by omega)
          rw [hr]
          match r, hb with
          | .inl f, hb => exact ⟨_, rfl, hb.1, by have := hb.2; omega⟩
          | .inr (q, e), hb =>
            obtain ⟨b1, b2, b3⟩ := hb
            dsimp only
            by_cases h12 : md = 12
            · rw [if_pos h12]
              exact ⟨_, rfl, b1, by omega, fun _ => by omega⟩
            · rw [if_neg h12]
              obtain ⟨r2, hr2, hb2⟩ := ih md o q (fun nm => joinV (c p) (acc nm) (e nm)) (by omega) b1 hmd
              refine ⟨r2, hr2, ?_⟩
              match r2, hb2 with
              | .inl f, hb2 => exact ⟨hb2.1, by have := hb2.2; omega⟩
              | .inr (q2, e2), hb2 => exact ⟨hb2.1, by have := hb2.2.1; omega, fun _ => by omega⟩
        · rw [if_neg hl]
          exact ⟨_, rfl, hp, Nat.le_refl _, fun _ => by omega⟩
set_option maxHeartbeats 2000000 in
theorem ps_pb (c : Nat → Nat) (n : Nat) (hc : ∀ i, n ≤ i → c i = 0) : ∀ k md o p acc r, ps c k md o p acc = some r → p ≤ n → (md ≤ 5 ∨ (10 ≤ md ∧ md ≤ 14)) → PB n p md r := by
  intro k
  induction k with
  | zero => intro md o p acc r H; exact absurd H (by rw [ps]; exact fun q => by cases q)
  | succ k ih =>
    intro md o p acc r H hp hmd
    by_cases m5 : md < 5
    · rw [ps, if_pos m5] at H
      cases hr : ps c k (md + 1) o p acc with
      | none => rw [hr] at H; cases H
      | some r1 =>
        rw [hr] at H
        have hb := ih _ _ _ _ _ hr hp (by omega)
        match r1, hb, H with
        | .inl f, hb, H => cases H; exact hb
        | .inr (q, e), hb, H =>
          obtain ⟨b1, b2, b3⟩ := hb
          have b3 := b3 (by omega)
          have hb2 := ih _ _ _ _ _ H b1 (by omega)
          match r, hb2 with
          | .inl f, hb2 => exact ⟨hb2.1, Nat.le_trans b2 hb2.2⟩
          | .inr (q2, e2), hb2 => exact ⟨hb2.1, Nat.le_trans b2 hb2.2.1, fun _ => Nat.lt_of_lt_of_le b3 hb2.2.1⟩
    · by_cases m10 : md < 10
      · obtain rfl : md = 5 := by omega
        rw [ps, if_neg m5, if_pos m10] at H
        by_cases hd : dgO (c p) = true
        · rw [if_pos hd] at H
          cases H
          obtain ⟨a1, a2, -⟩ := nums_le c n hc 4 p 0 hp
          exact ⟨a2, a1, fun _ => nums_1 hd hc hp⟩
        · rw [if_neg hd] at H
          cases hn : nmO (c p) with
          | some j =>
            rw [hn] at H
            cases H
            have : p < n := by
              rcases Nat.lt_or_ge p n with q | q
              · exact q
              · rw [hc p q, show nmO 0 = none from rfl] at hn; cases hn
            exact ⟨by omega, by omega, fun _ => by omega⟩
          | none =>
            rw [hn] at H
            dsimp only at H
            by_cases hb : o < 6 ∧ c p = 40
            · rw [if_pos hb] at H
              have hpn : p < n := ch_lt hc (by omega)
              cases hr : ps c k 0 (o + 1) (p + 1) acc with
              | none => rw [hr] at H; cases H
              | some r1 =>
                rw [hr] at H
                have hb := ih _ _ _ _ _ hr (by omega) (by omega)
                match r1, hb, H with
                | .inl f, hb, H => cases H; exact ⟨hb.1, by have := hb.2; omega⟩
                | .inr (q, e), hb, H =>
                  obtain ⟨b1, b2, b3⟩ := hb
                  dsimp only at H
                  by_cases h41 : c q = 41
                  · rw [if_pos h41] at H
                    cases H
                    have := ch_lt hc (show 0 < c q by omega)
                    exact ⟨by omega, by omega, fun _ => by omega⟩
                  · rw [if_neg h41] at H
                    cases H
                    exact ⟨b1, by omega⟩
            · rw [if_neg hb] at H
              by_cases hb2 : o < 6 ∧ (c p = 33 ∨ c p = 45)
              · rw [if_pos hb2] at H
                have hpn : p < n := ch_lt hc (by omega)
                cases hr : ps c k 5 (o + 1) (p + 1) acc with
                | none => rw [hr] at H; cases H
                | some r1 =>
                  rw [hr] at H
                  have hb := ih _ _ _ _ _ hr (by omega) (by omega)
                  match r1, hb, H with
                  | .inl f, hb, H => cases H; exact ⟨hb.1, by have := hb.2; omega⟩
                  | .inr (q, e), hb, H =>
                    obtain ⟨b1, b2, b3⟩ := hb
                    cases H
                    exact ⟨b1, by omega, fun _ => by omega⟩
              · rw [if_neg hb2] at H
                cases H
                exact ⟨hp, Nat.le_refl _⟩
      · rw [ps, if_neg m5, if_neg m10] at H
        by_cases hl : lvO (c p) = md - 10
        · rw [if_pos hl] at H
          have hpn : p < n := lvO_lt hc (by omega)
          cases hr : ps c k (md - 9) o (p + 1) acc with
          | none => rw [hr] at H; cases H
          | some r1 =>
            rw [hr] at H
            have hb := ih _ _ _ _ _ hr (by omega) (by omega)
            match r1, hb, H with
            | .inl f, hb, H => cases H; exact ⟨hb.1, by have := hb.2; omega⟩
            | .inr (q, e), hb, H =>
              obtain ⟨b1, b2, b3⟩ := hb
              dsimp only at H
              by_cases h12 : md = 12
              · rw [if_pos h12] at H
                cases H
                exact ⟨b1, by omega, fun _ => by omega⟩
              · rw [if_neg h12] at H
                have hb2 := ih _ _ _ _ _ H b1 hmd
                match r, hb2 with
                | .inl f, hb2 => exact ⟨hb2.1, by have := hb2.2; omega⟩
                | .inr (q2, e2), hb2 => exact ⟨hb2.1, by have := hb2.2.1; omega, fun _ => by omega⟩
        · rw [if_neg hl] at H
          cases H
          exact ⟨hp, Nat.le_refl _, fun _ => by omega⟩
/-- lines -/
abbrev An : Type := En → Option Int32
abbrev ez : Ex := fun _ => 0
def pln (c : Nat → Nat) (p : Nat) : Option (Nat ⊕ (Nat × Option Ex × Ex)) :=
  match ps c 2000 0 0 p ez with
  | some (.inr (q, e)) =>
    if c q = 63 then
      match ps c 2000 0 0 (q + 1) ez with
      | some (.inr (q2, e2)) => some (.inr (q2, some e, e2))
      | some (.inl f) => some (.inl f)
      | none => none
    else some (.inr (q, none, e))
  | some (.inl f) => some (.inl f)
  | none => none
def lnA (A : An) (ce : Option Ex) (e : Ex) : An := fun nm => match A nm with
  | some v => some v
  | none => match ce with
    | none => some (e nm)
    | some c => if c nm = 0 then none else some (e nm)
def pl (c : Nat → Nat) (n : Nat) : Nat → Nat → An → Option (Nat ⊕ An)
  | 0, _, _ => none
  | k + 1, p, A => match pln c p with
    | some (.inr (q, ce, e)) => if c q = 59 then pl c n k (q + 1) (lnA A ce e) else if q < n then some (.inl q) else some (.inr (lnA A ce e))
    | some (.inl f) => some (.inl f)
    | none => none
theorem pln_tot {c : Nat → Nat} {n : Nat} (hc : ∀ i, n ≤ i → c i = 0) (hn : n ≤ 120) {p : Nat} (hp : p ≤ n) : ∃ r, pln c p = some r ∧ (∀ q ce e, r = .inr (q, ce, e) → q ≤ n ∧ p < q) ∧ (∀ f, r = .inl f → f ≤ n) := by
  have w0 : wt 0 = 8 := rfl
  unfold pln
  obtain ⟨r, hr, hb⟩ := ps_tot c n hc 2000 0 0 p ez (by omega) hp (by omega)
  rw [hr]
  match r, hb with
  | .inl f, hb => exact ⟨_, rfl, fun _ _ _ h => (by cases h), fun f' h => by cases h; exact hb.1⟩
  | .inr (q, e), hb =>
    obtain ⟨b1, b2, b3⟩ := hb
    have b3 := b3 (by decide)
    dsimp only
    by_cases h63 : c q = 63
    · rw [if_pos h63]
      have hq := ch_lt hc (show 0 < c q by omega)
      obtain ⟨r2, hr2, hb2⟩ := ps_tot c n hc 2000 0 0 (q + 1) ez (by omega) (by omega) (by omega)
      rw [hr2]
      match r2, hb2 with
      | .inl f, hb2 => exact ⟨_, rfl, fun _ _ _ h => (by cases h), fun f' h => by cases h; exact hb2.1⟩
      | .inr (q2, e2), hb2 => exact ⟨_, rfl, fun _ _ _ h => by cases h; have := hb2.2.1; exact ⟨hb2.1, by omega⟩, fun f' h => (by cases h)⟩
    · rw [if_neg h63]
      exact ⟨_, rfl, fun _ _ _ h => by cases h; exact ⟨b1, b3⟩, fun f' h => (by cases h)⟩
theorem pl_tot {c : Nat → Nat} {n : Nat} (hc : ∀ i, n ≤ i → c i = 0) (hn : n ≤ 120) : ∀ k p A, n - p < k → p ≤ n → ∃ r, pl c n k p A = some r
  | 0, p, A, h, _ => absurd h (Nat.not_lt_zero _)
  | k + 1, p, A, h, hp => by
    rw [pl]
    obtain ⟨r, hr, h1, h2⟩ := pln_tot hc hn hp
    rw [hr]
    match r, h1 with
    | .inl f, _ => exact ⟨_, rfl⟩
    | .inr (q, ce, e), h1 =>
      obtain ⟨b1, b2⟩ := h1 q ce e rfl
      dsimp only
      by_cases h59 : c q = 59
      · rw [if_pos h59]
        have hq := ch_lt hc (show 0 < c q by omega)
        exact pl_tot hc hn k (q + 1) _ (by omega) (by omega)
      · rw [if_neg h59]
        by_cases hqn : q < n
        · rw [if_pos hqn]; exact ⟨_, rfl⟩
        · rw [if_neg hqn]; exact ⟨_, rfl⟩
/-- what a text is, and what it means -/
def txt (c : Nat → Nat) (n : Nat) : Nat ⊕ An := (pl c n 200 0 (fun _ => none)).getD (.inl 0)
theorem txt_eq {c : Nat → Nat} {n : Nat} (hc : ∀ i, n ≤ i → c i = 0) (hn : n ≤ 120) : pl c n 200 0 (fun _ => none) = some (txt c n) := by
  obtain ⟨r, hr⟩ := pl_tot hc hn 200 0 (fun _ => none) (by omega) (Nat.zero_le _)
  unfold txt
  rw [hr]; rfl
abbrev nmV6 (d l g c w hh : Nat) : En := fun i => match i with
  | 0 => nI d
  | 1 => nI l
  | 2 => nI g
  | 3 => nI c
  | 4 => nI w
  | _ => nI hh
/-- the law that a text tells -/
def lawF (A : An) : Lf := fun d l g c w hh => hN ((A (nmV6 d l g c w hh)).getD 0)
def law0 : Lf := fun d l g _ _ _ => hN (nI d + nI g / nI 3 - nI l)
abbrev chA (b : Nat → Nat) (n : Nat) : Nat → Nat := fun i => if i < n then b i else 0
theorem chA_0 (b : Nat → Nat) (n : Nat) : ∀ i, n ≤ i → chA b n i = 0 := fun i h => if_neg (by omega)
