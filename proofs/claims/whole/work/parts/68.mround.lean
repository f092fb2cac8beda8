/-! the reference: ROUND -/
def cpn (n : Nat) (a b : Nat → Nat) : Nat → Nat := fun j => if j < n then a j else b j
theorem cpn_0 (a b : Nat → Nat) : cpn 0 a b = b := funext fun j => if_neg (Nat.not_lt_zero j)
theorem cpn_s (n : Nat) (a b : Nat → Nat) : va_up (cpn n a b) n (a n) = cpn (n + 1) a b := by
  funext j
  unfold va_up cpn
  by_cases e : j = n
  · rw [if_pos e, e, if_pos (by omega)]
  · rw [if_neg e]
    by_cases q : j < n
    · rw [if_pos q, if_pos (by omega)]
    · rw [if_neg q, if_neg (by omega)]
def wghN (m n : Nat) (s : Wk) : Wk := if n < s.2.2 then (s.1, cpn m s.1 s.2.1, n) else s
def goN (F : Lf) (m : Nat) : Nat → Nat → Cv → Nat → Wk → Wk
  | 0, _, x, _, s => wghN m (ctn (cK x) 36) s
  | j + 1, r, x, e, s => wfold (fun w o s => goN F m j o (stepC F x o) (e + 1) (va_up s.1 e w, s.2.1, s.2.2)) r s 5
abbrev sOf (o : MO) : Wk := (o.2.2.1, o.2.2.2.1, o.2.2.2.2.1)
/-- the way that was gone so far -/
def WAY (F : Lf) (r0 : Nat) (v : Cv) (W : Nat → Nat) (e : Nat) (P : Nat → Nat) (C : Nat → Cv) : Prop := P 0 = r0 ∧ C 0 = v ∧ ∀ i, i < e → bes5 (P i) (W i) = some (P (i + 1)) ∧ C (i + 1) = stepC F (C i) (P (i + 1)) ∧ W i ≤ 4
theorem WAY.lt {F : Lf} {r0 : Nat} {v : Cv} {W : Nat → Nat} {e : Nat} {P : Nat → Nat} {C : Nat → Cv} (H : WAY F r0 v W e P C) (hr : r0 < 36) : ∀ i, i ≤ e → P i < 36
  | 0, _ => by rw [H.1]; exact hr
  | i + 1, hi => bes5_lt (WAY.lt H hr i (by omega)) (H.2.2 i (by omega)).1
theorem okC_step {F : Lf} {x : Cv} {o : Nat} (h : okC x) (ho : o < 36) : okC (stepC F x o) := by
  unfold stepC
  refine okC_hour ?_
  split
  · exact okC_W h ho (by decide)
  · exact h
theorem WAY.okC {F : Lf} {r0 : Nat} {v : Cv} {W : Nat → Nat} {e : Nat} {P : Nat → Nat} {C : Nat → Cv} (H : WAY F r0 v W e P C) (hr : r0 < 36) (hv : okC v) : ∀ i, i ≤ e → okC (C i)
  | 0, _ => by rw [H.2.1]; exact hv
  | i + 1, hi => by rw [(H.2.2 i (by omega)).2.1]; exact okC_step (WAY.okC H hr hv i (by omega)) (H.lt hr _ (by omega))
theorem WAY.cg {F : Lf} {r0 : Nat} {v : Cv} {W W2 : Nat → Nat} {e : Nat} {P : Nat → Nat} {C : Nat → Cv} (H : WAY F r0 v W e P C) (h : ∀ i, i < e → W2 i = W i) : WAY F r0 v W2 e P C := ⟨H.1, H.2.1, fun i hi => by rw [h i hi]; exact H.2.2 i hi⟩
theorem WAY.more {F : Lf} {r0 : Nat} {v : Cv} {W W2 : Nat → Nat} {e w o : Nat} {P : Nat → Nat} {C : Nat → Cv} (H : WAY F r0 v W e P C) (h : ∀ i, i < e → W2 i = W i) (hw : W2 e = w) (hw4 : w ≤ 4) (hb : bes5 (P e) w = some o) : WAY F r0 v W2 (e + 1) (va_up P (e + 1) o) (fun i => if i = e + 1 then stepC F (C e) o else C i) := by
  refine ⟨(up_ne (by omega)).trans H.1, (if_neg (by omega)).trans H.2.1, fun i hi => ?_⟩
  by_cases q : i = e
  · subst q
    rw [up_ne (by omega), up_eq, hw]
    refine ⟨hb, ?_, hw4⟩
    show (if i + 1 = i + 1 then _ else _) = stepC F (if i = i + 1 then _ else C i) o
    rw [if_pos rfl, if_neg (by omega)]
  · obtain ⟨a1, a2, a3⟩ := H.2.2 i (by omega)
    rw [up_ne (by omega), up_ne (by omega), h i (by omega)]
    refine ⟨a1, ?_, a3⟩
    show (if i + 1 = e + 1 then _ else C (i + 1)) = stepC F (if i = e + 1 then _ else C i) _
    rw [if_neg (by omega), if_neg (by omega)]
    exact a2
theorem wfold_pre {g : Nat → Nat → Wk → Wk} {r e : Nat} {s : Wk} (hg : ∀ w o s i, i < e → (g w o s).1 i = s.1 i) : ∀ k i, i < e → (wfold g r s k).1 i = s.1 i
  | 0, _, _ => rfl
  | k + 1, i, hi => by
    rw [wfold]
    split
    · exact wfold_pre hg k i hi
    · rw [hg _ _ _ _ hi]; exact wfold_pre hg k i hi
theorem goN_pre {F : Lf} {m : Nat} : ∀ j r x e (s : Wk) i, i < e → (goN F m j r x e s).1 i = s.1 i
  | 0, _, _, _, s, i, _ => by
    rw [goN, wghN]
    split <;> rfl
  | j + 1, r, x, e, s, i, hi => wfold_pre (g := fun w o s => goN F m j o (stepC F x o) (e + 1) (va_up s.1 e w, s.2.1, s.2.2)) (fun w o s i hi => (goN_pre j o (stepC F x o) (e + 1) (va_up s.1 e w, s.2.1, s.2.2) i (by omega)).trans (up_ne (by omega))) 5 i hi
theorem goN_le {F : Lf} {m : Nat} : ∀ j r x e (s : Wk), s.2.2 ≤ 1000000 → (goN F m j r x e s).2.2 ≤ 1000000
  | 0, _, x, _, s, h => by
    have := ctn_le (cK x) 36
    rw [goN, wghN]
    split
    · show ctn (cK x) 36 ≤ _; omega
    · exact h
  | j + 1, r, x, e, s, h => by
    have H : ∀ k, (wfold (fun w o s => goN F m j o (stepC F x o) (e + 1) (va_up s.1 e w, s.2.1, s.2.2)) r s k).2.2 ≤ 1000000 := by
      intro k
      induction k with
      | zero => exact h
      | succ k ih =>
        rw [wfold]
        split
        · exact ih
        · exact goN_le j _ _ _ _ ih
    exact H 5
/-- one side's search against the other's: alike below m -/
def RW2 (m : Nat) (s t : Wk) : Prop := (∀ i, i < m → s.1 i = t.1 i) ∧ ((s.2.2 = t.2.2 ∧ s.2.2 ≤ 36 ∧ ∀ i, i < m → s.2.1 i = t.2.1 i) ∨ (s.2.2 = 37 ∧ t.2.2 = 1000000))
theorem goN_F {F : Lf} {m : Nat} (hm : m ≤ 4) : ∀ j r x e (s t : Wk), RW2 m s t → RW2 m (goF F j r x e s) (goN F m j r x e t) ∧ (goF F j r x e s).2.2 ≤ 36
  | 0, _, x, _, s, t, h => by
    have h36 := ctn_le (cK x) 36
    obtain ⟨h1, h2⟩ := h
    rw [goF, goN, wgh, wghN]
    have fin : RW2 m (s.1, cp4 s.1 s.2.1, ctn (cK x) 36) (t.1, cpn m t.1 t.2.1, ctn (cK x) 36) := ⟨h1, Or.inl ⟨rfl, h36, fun i hi => by
      show cp4 s.1 s.2.1 i = cpn m t.1 t.2.1 i
      rw [cp4, cpn, if_pos (by omega), if_pos hi]; exact h1 i hi⟩⟩
    rcases h2 with ⟨e1, e2, e3⟩ | ⟨e1, e2⟩
    · by_cases q : ctn (cK x) 36 < s.2.2
      · rw [if_pos q, if_pos (by omega)]; exact ⟨fin, h36⟩
      · rw [if_neg q, if_neg (by omega)]; exact ⟨⟨h1, Or.inl ⟨e1, e2, e3⟩⟩, e2⟩
    · rw [if_pos (by omega), if_pos (by omega)]; exact ⟨fin, h36⟩
  | j + 1, r, x, e, s, t, h => by
    have H : ∀ k, RW2 m (wfold (fun w o s => goF F j o (stepC F x o) (e + 1) (va_up s.1 e w, s.2.1, s.2.2)) r s k) (wfold (fun w o s => goN F m j o (stepC F x o) (e + 1) (va_up s.1 e w, s.2.1, s.2.2)) r t k) ∧ (k = 5 → (wfold (fun w o s => goF F j o (stepC F x o) (e + 1) (va_up s.1 e w, s.2.1, s.2.2)) r s k).2.2 ≤ 36) := by
      intro k
      induction k with
      | zero => exact ⟨h, fun q => absurd q (by decide)⟩
      | succ k ih =>
        rw [wfold, wfold]
        cases hb : bes5 r k with
        | none =>
          refine ⟨ih.1, fun q => ?_⟩
          obtain rfl : k = 4 := by omega
          cases hb
        | some o =>
          have st : ∀ a b : Wk, RW2 m a b → RW2 m (va_up a.1 e k, a.2.1, a.2.2) (va_up b.1 e k, b.2.1, b.2.2) := fun a b q => ⟨fun i hi => by
            show va_up a.1 e k i = va_up b.1 e k i
            unfold va_up
            split
            · rfl
            · exact q.1 i hi, q.2⟩
          have := goN_F (F := F) hm j o (stepC F x o) (e + 1) _ _ (st _ _ ih.1)
          exact ⟨this.1, fun _ => this.2⟩
    exact ⟨(H 5).1, (H 5).2 rfl⟩
