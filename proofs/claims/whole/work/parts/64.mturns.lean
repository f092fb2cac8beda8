/-! BY TURNS: what both answer -/
section BT
variable {f : Cv → Nat} {g : Bool} {rs : Nat} {v : Cv}
theorem csW_same (v : Cv) (r : Nat) : csW v r (cW v r) = v := by
  obtain ⟨W, Z⟩ := v
  show (va_up W r (W r), Z) = (W, Z)
  have : va_up W r (W r) = W := by
    funext i
    unfold va_up
    by_cases e : i = r
    · rw [if_pos e, e]
    · rw [if_neg e]
  rw [this]
theorem betB_irr (g : Bool) (a : Nat) : ¬ betB g a a = true := by cases g <;> simp [betB]
theorem betB_tr {g : Bool} {a b c : Nat} (h1 : betB g a b = true) (h2 : betB g b c = true) : betB g a c = true := by
  cases g <;> simp [betB] at * <;> omega
theorem hasB_w {r : Nat} (h : (g && cK v r) = false) : hasB g v r = wB g v r := by
  unfold hasB wB
  cases g with
  | false => rfl
  | true =>
    have h : cK v r = false := by simpa using h
    rw [if_pos rfl, if_pos rfl, h]; rfl
theorem hasB_k {r : Nat} (h : (g && cK v r) = true) : hasB g v r = cW v r := by
  unfold hasB
  have h : g = true ∧ cK v r = true := by simpa using h
  rw [h.1, h.2]; rfl
/-- one side's fold against the other's -/
theorem tf_all (k : Nat) : (tfold f g rs v k).1 = rfold f g rs v k ∧ (((tfold f g rs v k).2 = 6 ∧ (tfold f g rs v k).1 = f v) ∨ ((tfold f g rs v k).2 < k ∧ (g && cK v (rs + (tfold f g rs v k).2)) = false ∧ f (csW v (rs + (tfold f g rs v k).2) (wB g v (rs + (tfold f g rs v k).2))) = (tfold f g rs v k).1 ∧ betB g (tfold f g rs v k).1 (f v) = true ∧ ∀ x, x < (tfold f g rs v k).2 → (g && cK v (rs + x)) = false → betB g (tfold f g rs v k).1 (f (csW v (rs + x) (wB g v (rs + x)))) = true)) ∧ ∀ x, x < k → (g && cK v (rs + x)) = false → ¬ betB g (f (csW v (rs + x) (wB g v (rs + x)))) (tfold f g rs v k).1 = true := by
  induction k with
  | zero => exact ⟨rfl, Or.inl ⟨rfl, rfl⟩, fun x hx => absurd hx (Nat.not_lt_zero x)⟩
  | succ k ih =>
    obtain ⟨h1, h2, h3⟩ := ih
    have nfv : ¬ betB g (f v) (tfold f g rs v k).1 = true := by
      rcases h2 with ⟨_, e⟩ | ⟨_, _, _, e, _⟩
      · rw [e]; exact betB_irr g _
      · exact fun q => betB_irr g _ (betB_tr q e)
    have keep : tfold f g rs v (k + 1) = tfold f g rs v k → rfold f g rs v (k + 1) = rfold f g rs v k → ((g && cK v (rs + k)) = false → ¬ betB g (f (csW v (rs + k) (wB g v (rs + k)))) (tfold f g rs v k).1 = true) → _ := fun e1 e2 e3 => (show (tfold f g rs v (k + 1)).1 = rfold f g rs v (k + 1) ∧ (((tfold f g rs v (k + 1)).2 = 6 ∧ (tfold f g rs v (k + 1)).1 = f v) ∨ ((tfold f g rs v (k + 1)).2 < k + 1 ∧ (g && cK v (rs + (tfold f g rs v (k + 1)).2)) = false ∧ f (csW v (rs + (tfold f g rs v (k + 1)).2) (wB g v (rs + (tfold f g rs v (k + 1)).2))) = (tfold f g rs v (k + 1)).1 ∧ betB g (tfold f g rs v (k + 1)).1 (f v) = true ∧ ∀ x, x < (tfold f g rs v (k + 1)).2 → (g && cK v (rs + x)) = false → betB g (tfold f g rs v (k + 1)).1 (f (csW v (rs + x) (wB g v (rs + x)))) = true)) ∧ ∀ x, x < k + 1 → (g && cK v (rs + x)) = false → ¬ betB g (f (csW v (rs + x) (wB g v (rs + x)))) (tfold f g rs v (k + 1)).1 = true from by
      rw [e1, e2]
      refine ⟨h1, ?_, fun x hx hs => ?_⟩
      · rcases h2 with q | ⟨q1, q2⟩
        · exact Or.inl q
        · exact Or.inr ⟨by omega, q2⟩
      · by_cases e : x = k
        · rw [e] at hs ⊢; exact e3 hs
        · exact h3 x (by omega) hs)
    cases hs : (g && cK v (rs + k)) with
    | true => exact keep (tf_skip (hasB_k hs)) (rf_skip hs) (fun q => by rw [hs] at q; cases q)
    | false =>
      have hw := hasB_w (g := g) (v := v) hs
      by_cases he : hasB g v (rs + k) = cW v (rs + k)
      · have hn : ¬ betB g (f (csW v (rs + k) (wB g v (rs + k)))) (tfold f g rs v k).1 = true := by
          rw [← hw, he, csW_same]; exact nfv
        exact keep (tf_skip he) (rf_old hs (by rw [← h1]; exact hn)) (fun _ => hn)
      · by_cases hb : betB g (f (csW v (rs + k) (wB g v (rs + k)))) (tfold f g rs v k).1 = true
        · have e1 := tf_bet (f := f) he (by rw [hw]; exact hb)
          rw [hw] at e1
          rw [e1, rf_new hs (by rw [← h1]; exact hb)]
          refine ⟨rfl, Or.inr ⟨Nat.lt_succ_self k, hs, rfl, ?_, fun x hx hx2 => ?_⟩, fun x hx hx2 => ?_⟩
          · rcases h2 with ⟨_, e⟩ | ⟨_, _, _, e, _⟩
            · rw [← e]; exact hb
            · exact betB_tr hb e
          · have := h3 x hx hx2
            cases hgx : betB g (f (csW v (rs + k) (wB g v (rs + k)))) (f (csW v (rs + x) (wB g v (rs + x)))) with
            | true => rfl
            | false =>
              exfalso
              revert this hb hgx
              cases g <;> simp [betB] <;> omega
          · by_cases e : x = k
            · rw [e]; exact betB_irr g _
            · exact fun q => h3 x (by omega) hx2 (betB_tr q hb)
        · exact keep (tf_not he (by rw [hw]; exact hb)) (rf_old hs (by rw [← h1]; exact hb)) (fun _ => hb)
end BT
theorem outT_R {F : Lf} {rs t : Nat} : ∀ j g v, outT F rs t j g v = outR F rs t j g v
  | 0, _, _ => rfl
  | j + 1, g, v => by
    rw [outT, outR, show outT F rs t j (!g) = outR F rs t j (!g) from funext (fun u => outT_R j (!g) u)]
    exact (tf_all 6).1
/-- the first X -/
def fstX (F : Lf) (rs t n : Nat) (v : Cv) : Nat := fxT F rs t n 0 v 6
def spByTurns (F : Lf) (v : Cv) (ynt w : Int32) : Int32 := if inR 0 (nI 599) ynt = true then (if inR 0 (nI 1) w = true then (if inN 1 3 (iN ynt / 10 % 10) = true then (if inN 0 6 (iN ynt % 10) = true then (if iN w = 0 then nI (outT F (6 * (iN ynt / 100)) (iN ynt % 10) (iN ynt / 10 % 10) true v) else nI (fstX F (6 * (iN ynt / 100)) (iN ynt % 10) (iN ynt / 10 % 10) v)) else -1) else -1) else -1) else -1
theorem fstX_of {F : Lf} {rs t n : Nat} {v : Cv} (hn : 0 < n) : ∃ f : Cv → Nat, f = outR F rs t (n - 1) false ∧ outR F rs t n true v = rfold f true rs v 6 ∧ ((f v = rfold f true rs v 6 ∧ fstX F rs t n v = 6) ∨ (¬ f v = rfold f true rs v 6 ∧ fstX F rs t n v < 6 ∧ cK v (rs + fstX F rs t n v) = false ∧ f (csW v (rs + fstX F rs t n v) (wB true v (rs + fstX F rs t n v))) = rfold f true rs v 6 ∧ ∀ x, x < fstX F rs t n v → cK v (rs + x) = false → ¬ f (csW v (rs + x) (wB true v (rs + x))) = rfold f true rs v 6)) := by
  obtain ⟨j, rfl⟩ : ∃ j, n = j + 1 := ⟨n - 1, by omega⟩
  refine ⟨_, rfl, rfl, ?_⟩
  have hx : fstX F rs t (j + 1) v = (tfold (outR F rs t j false) true rs v 6).2 := by
    rw [fstX, fxT, if_pos rfl]
    show (tfold (outT F rs t j false) true rs v 6).2 = _
    rw [show outT F rs t j false = outR F rs t j false from funext (fun u => outT_R j false u)]
  rw [Nat.add_sub_cancel]
  obtain ⟨h1, h2, h3⟩ := tf_all (f := outR F rs t j false) (g := true) (rs := rs) (v := v) 6
  rw [hx, ← h1]
  rcases h2 with ⟨e1, e2⟩ | ⟨e1, e2, e3, e4, e5⟩
  · exact Or.inl ⟨e2.symm, e1⟩
  · refine Or.inr ⟨fun q => ?_, e1, by simpa using e2, e3, fun x hx hk q => ?_⟩
    · rw [q] at e4; exact betB_irr _ _ e4
    · have := e5 x hx (by rw [hk]; rfl)
      rw [q] at this; exact betB_irr _ _ this
