/-! the texts' steps, one by one -/
theorem ps_0 {c : Nat → Nat} {md o p : Nat} {acc : Ex} {r : Nat ⊕ (Nat × Ex)} (H : ps c 0 md o p acc = some r) : False := by
  rw [ps] at H; cases H
theorem ps_lv {c : Nat → Nat} {k md o p : Nat} {acc : Ex} {r : Nat ⊕ (Nat × Ex)} (m5 : md < 5) (H : ps c (k + 1) md o p acc = some r) :
    (∃ f, ps c k (md + 1) o p acc = some (.inl f) ∧ r = .inl f) ∨ (∃ q e, ps c k (md + 1) o p acc = some (.inr (q, e)) ∧ ps c k (10 + md) o q e = some r) := by
  rw [ps, if_pos m5] at H
  cases hr : ps c k (md + 1) o p acc with
  | none => rw [hr] at H; cases H
  | some r1 =>
    rw [hr] at H
    match r1, H with
    | .inl f, H => cases H; exact Or.inl ⟨f, rfl, rfl⟩
    | .inr (q, e), H => exact Or.inr ⟨q, e, rfl, H⟩
theorem ps_lp {c : Nat → Nat} {k L o p : Nat} {acc : Ex} {r : Nat ⊕ (Nat × Ex)} (H : ps c (k + 1) (10 + L) o p acc = some r) :
    (¬ lvO (c p) = L ∧ r = .inr (p, acc)) ∨ (lvO (c p) = L ∧ ((∃ f, ps c k (L + 1) o (p + 1) acc = some (.inl f) ∧ r = .inl f) ∨ (∃ q e, ps c k (L + 1) o (p + 1) acc = some (.inr (q, e)) ∧ (L = 2 → r = .inr (q, fun nm => joinV (c p) (acc nm) (e nm))) ∧ (L ≠ 2 → ps c k (10 + L) o q (fun nm => joinV (c p) (acc nm) (e nm)) = some r)))) := by
  rw [ps, if_neg (by omega), if_neg (by omega), show 10 + L - 10 = L by omega, show 10 + L - 9 = L + 1 by omega] at H
  by_cases hl : lvO (c p) = L
  · rw [if_pos hl] at H
    refine Or.inr ⟨hl, ?_⟩
    cases hr : ps c k (L + 1) o (p + 1) acc with
    | none => rw [hr] at H; cases H
    | some r1 =>
      rw [hr] at H
      match r1, H with
      | .inl f, H => cases H; exact Or.inl ⟨f, rfl, rfl⟩
      | .inr (q, e), H =>
        refine Or.inr ⟨q, e, rfl, fun h2 => ?_, fun h2 => ?_⟩
        · dsimp only at H
          rw [if_pos (by omega)] at H; cases H; rfl
        · dsimp only at H
          rw [if_neg (by omega)] at H; exact H
  · rw [if_neg hl] at H
    cases H
    exact Or.inl ⟨hl, rfl⟩
theorem ps_op {c : Nat → Nat} {k o p : Nat} {acc : Ex} {r : Nat ⊕ (Nat × Ex)} (H : ps c (k + 1) 5 o p acc = some r) :
    (dgO (c p) = true ∧ r = .inr ((nums c 4 p 0).1, fun _ => nI (nums c 4 p 0).2)) ∨
    (∃ j, nmO (c p) = some j ∧ r = .inr (p + 1, fun nm => nm j)) ∨
    (o < 6 ∧ c p = 40 ∧ ((∃ f, ps c k 0 (o + 1) (p + 1) acc = some (.inl f) ∧ r = .inl f) ∨ (∃ q e, ps c k 0 (o + 1) (p + 1) acc = some (.inr (q, e)) ∧ ((c q = 41 ∧ r = .inr (q + 1, e)) ∨ (¬ c q = 41 ∧ r = .inl q))))) ∨
    (o < 6 ∧ (c p = 33 ∨ c p = 45) ∧ ((∃ f, ps c k 5 (o + 1) (p + 1) acc = some (.inl f) ∧ r = .inl f) ∨ (∃ q e, ps c k 5 (o + 1) (p + 1) acc = some (.inr (q, e)) ∧ r = .inr (q, fun nm => joinV (if c p = 45 then 126 else 33) (e nm) (e nm))))) ∨
    (dgO (c p) = false ∧ nmO (c p) = none ∧ (o < 6 → ¬ c p = 40 ∧ ¬ c p = 33 ∧ ¬ c p = 45) ∧ r = .inl p) := by
  rw [ps, if_neg (by decide), if_pos (by decide)] at H
  by_cases hd : dgO (c p) = true
  · rw [if_pos hd] at H
    cases H
    exact Or.inl ⟨hd, rfl⟩
  · rw [if_neg hd] at H
    cases hn : nmO (c p) with
    | some j =>
      rw [hn] at H
      cases H
      exact Or.inr (Or.inl ⟨j, rfl, rfl⟩)
    | none =>
      rw [hn] at H
      dsimp only at H
      by_cases hb : o < 6 ∧ c p = 40
      · rw [if_pos hb] at H
        refine Or.inr (Or.inr (Or.inl ⟨hb.1, hb.2, ?_⟩))
        cases hr : ps c k 0 (o + 1) (p + 1) acc with
        | none => rw [hr] at H; cases H
        | some r1 =>
          rw [hr] at H
          match r1, H with
          | .inl f, H => cases H; exact Or.inl ⟨f, rfl, rfl⟩
          | .inr (q, e), H =>
            refine Or.inr ⟨q, e, rfl, ?_⟩
            dsimp only at H
            by_cases h41 : c q = 41
            · rw [if_pos h41] at H; cases H; exact Or.inl ⟨h41, rfl⟩
            · rw [if_neg h41] at H; cases H; exact Or.inr ⟨h41, rfl⟩
      · rw [if_neg hb] at H
        by_cases hb2 : o < 6 ∧ (c p = 33 ∨ c p = 45)
        · rw [if_pos hb2] at H
          refine Or.inr (Or.inr (Or.inr (Or.inl ⟨hb2.1, hb2.2, ?_⟩)))
          cases hr : ps c k 5 (o + 1) (p + 1) acc with
          | none => rw [hr] at H; cases H
          | some r1 =>
            rw [hr] at H
            match r1, H with
            | .inl f, H => cases H; exact Or.inl ⟨f, rfl, rfl⟩
            | .inr (q, e), H => cases H; exact Or.inr ⟨q, e, rfl, rfl⟩
        · rw [if_neg hb2] at H
          cases H
          exact Or.inr (Or.inr (Or.inr (Or.inr ⟨by simpa using hd, rfl, fun ho => ⟨fun q => hb ⟨ho, q⟩, fun q => hb2 ⟨ho, Or.inl q⟩, fun q => hb2 ⟨ho, Or.inr q⟩⟩, rfl⟩)))
theorem lvO_of {c L : Nat} (h : lvO c = L) (hL : L < 5) : (L = 0 ∧ c = 124) ∨ (L = 1 ∧ c = 38) ∨ (L = 2 ∧ (c = 60 ∨ c = 61 ∨ c = 62)) ∨ (L = 3 ∧ (c = 43 ∨ c = 45)) ∨ (L = 4 ∧ (c = 42 ∨ c = 47 ∨ c = 37)) := by
  unfold lvO at h
  split at h
  · omega
  · split at h
    · omega
    · split at h
      · omega
      · split at h
        · omega
        · split at h
          · omega
          · omega
theorem lvO_ne0 {c : Nat} (h : ¬ lvO c = 0) : ¬ c = 124 := fun q => h (by rw [q]; rfl)
theorem lvO_ne1 {c : Nat} (h : ¬ lvO c = 1) : ¬ c = 38 := fun q => h (by rw [q]; rfl)
theorem lvO_ne2 {c : Nat} (h : ¬ lvO c = 2) : ¬ c = 60 ∧ ¬ c = 61 ∧ ¬ c = 62 := ⟨fun q => h (by rw [q]; rfl), fun q => h (by rw [q]; rfl), fun q => h (by rw [q]; rfl)⟩
theorem lvO_ne3 {c : Nat} (h : ¬ lvO c = 3) : ¬ c = 43 ∧ ¬ c = 45 := ⟨fun q => h (by rw [q]; rfl), fun q => h (by rw [q]; rfl)⟩
theorem lvO_ne4 {c : Nat} (h : ¬ lvO c = 4) : ¬ c = 42 ∧ ¬ c = 47 ∧ ¬ c = 37 := ⟨fun q => h (by rw [q]; rfl), fun q => h (by rw [q]; rfl), fun q => h (by rw [q]; rfl)⟩
theorem dgO_iff {c : Nat} : dgO c = true ↔ 48 ≤ c ∧ c ≤ 57 := by simp [dgO]
theorem dgO_f {c : Nat} : dgO c = false ↔ ¬ (48 ≤ c ∧ c ≤ 57) := by rw [← dgO_iff]; simp
theorem nmO_ch {c j : Nat} (h : nmO c = some j) : j < 6 ∧ 99 ≤ c ∧ c ≤ 119 := by
  unfold nmO at h
  repeat (split at h; · cases h; omega)
  cases h
theorem nmO_no {c : Nat} (h : c ≤ 98) : nmO c = none := by
  unfold nmO
  repeat rw [if_neg (by omega)]
def PN (c : Nat → Nat) (n k q : Nat) (A : An) (r : Nat ⊕ An) : Prop := (c q = 59 ∧ pl c n k (q + 1) A = some r) ∨ (¬ c q = 59 ∧ ((q < n ∧ r = .inl q) ∨ (¬ q < n ∧ r = .inr A)))
theorem pl_0 {c : Nat → Nat} {n p : Nat} {A : An} {r : Nat ⊕ An} (H : pl c n 0 p A = some r) : False := by
  rw [pl] at H; cases H
theorem pl_st {c : Nat → Nat} {n k p : Nat} {A : An} {r : Nat ⊕ An} (H : pl c n (k + 1) p A = some r) :
    (∃ f, ps c 2000 0 0 p ez = some (.inl f) ∧ r = .inl f) ∨
    (∃ q e, ps c 2000 0 0 p ez = some (.inr (q, e)) ∧ ¬ c q = 63 ∧ PN c n k q (lnA A none e) r) ∨
    (∃ q e, ps c 2000 0 0 p ez = some (.inr (q, e)) ∧ c q = 63 ∧ ∃ f, ps c 2000 0 0 (q + 1) ez = some (.inl f) ∧ r = .inl f) ∨
    (∃ q e, ps c 2000 0 0 p ez = some (.inr (q, e)) ∧ c q = 63 ∧ ∃ q2 e2, ps c 2000 0 0 (q + 1) ez = some (.inr (q2, e2)) ∧ PN c n k q2 (lnA A (some e) e2) r) := by
  have key : ∀ (q : Nat) (A' : An), (if c q = 59 then pl c n k (q + 1) A' else if q < n then some (.inl q) else some (.inr A')) = some r → PN c n k q A' r := by
    intro q A' H
    by_cases h59 : c q = 59
    · rw [if_pos h59] at H; exact Or.inl ⟨h59, H⟩
    · rw [if_neg h59] at H
      by_cases hq : q < n
      · rw [if_pos hq] at H; cases H; exact Or.inr ⟨h59, Or.inl ⟨hq, rfl⟩⟩
      · rw [if_neg hq] at H; cases H; exact Or.inr ⟨h59, Or.inr ⟨hq, rfl⟩⟩
  rw [pl, pln] at H
  cases h1 : ps c 2000 0 0 p ez with
  | none => rw [h1] at H; cases H
  | some r1 =>
    rw [h1] at H
    match r1, H with
    | .inl f, H => cases H; exact Or.inl ⟨f, rfl, rfl⟩
    | .inr (q, e), H =>
      dsimp only at H
      by_cases h63 : c q = 63
      · rw [if_pos h63] at H
        cases h2 : ps c 2000 0 0 (q + 1) ez with
        | none => rw [h2] at H; cases H
        | some r2 =>
          rw [h2] at H
          match r2, H with
          | .inl f, H => cases H; exact Or.inr (Or.inr (Or.inl ⟨q, e, rfl, h63, f, h2, rfl⟩))
          | .inr (q2, e2), H => exact Or.inr (Or.inr (Or.inr ⟨q, e, rfl, h63, q2, e2, h2, key q2 _ H⟩))
      · rw [if_neg h63] at H
        exact Or.inr (Or.inl ⟨q, e, rfl, h63, key q _ H⟩)
theorem ln_T1 {A : An} {nm : En} {ce : Option Ex} {e : Ex} {g : Bool} {y : Int32} (hg : g = (A nm).isSome) (hy : y = (A nm).getD 0) (h : g = true) : g = (lnA A ce e nm).isSome ∧ y = (lnA A ce e nm).getD 0 := by
  unfold lnA
  cases hA : A nm with
  | none => rw [hA] at hg; rw [h] at hg; cases hg
  | some v => rw [hA] at hg hy; exact ⟨hg, hy⟩
theorem ln_T2 {A : An} {nm : En} {e : Ex} {g : Bool} {v : Int32} (hg : g = (A nm).isSome) (h : g = false) (hv : v = e nm) : true = (lnA A none e nm).isSome ∧ v = (lnA A none e nm).getD 0 := by
  unfold lnA
  cases hA : A nm with
  | none => exact ⟨rfl, hv⟩
  | some v => rw [hA] at hg; rw [h] at hg; cases hg
theorem ln_T3 {A : An} {nm : En} {ce e : Ex} {g : Bool} {v w : Int32} (hg : g = (A nm).isSome) (h : g = false) (hw : w = ce nm) (hc : ¬ w = 0) (hv : v = e nm) : true = (lnA A (some ce) e nm).isSome ∧ v = (lnA A (some ce) e nm).getD 0 := by
  unfold lnA
  cases hA : A nm with
  | none =>
    dsimp only
    rw [if_neg (by rw [← hw]; exact hc)]
    exact ⟨rfl, hv⟩
  | some v => rw [hA] at hg; rw [h] at hg; cases hg
theorem ln_T5 {A : An} {nm : En} {ce e : Ex} {g : Bool} {y w : Int32} (hg : g = (A nm).isSome) (hy : y = (A nm).getD 0) (hw : w = ce nm) (hc : w = 0) : g = (lnA A (some ce) e nm).isSome ∧ y = (lnA A (some ce) e nm).getD 0 := by
  unfold lnA
  cases hA : A nm with
  | none =>
    dsimp only
    rw [if_pos (by rw [← hw]; exact hc)]
    rw [hA] at hg hy
    exact ⟨hg, hy⟩
  | some v => rw [hA] at hg hy; exact ⟨hg, hy⟩
