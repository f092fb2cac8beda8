/-! THE OBJECT: what holds of it (cells 0 to 79), by parts -/
def WHx (n w wh : Nat) : Prop := (w ≤ 3 ∧ n < 36 ∧ wh = 36 * w + n) ∨ (4 ≤ w ∧ w ≤ 6 ∧ n = 0 ∧ wh = 140 + w)
def BVb (f : Nat → Nat) (v : Cv) : Prop := (∀ r, r < 36 → f r = cW v r ∧ f (108 + r) = (cK v r).toNat ∧ f (36 + r) = cG v r ∧ f (72 + r) = (cC v r).toNat) ∧ f 144 = cH v ∧ f 145 = cB v ∧ f 146 = cT v
theorem BVb.congr {f g : Nat → Nat} {v : Cv} (h : ∀ i, i < 147 → g i = f i) (H : BVb f v) : BVb g v := by
  obtain ⟨h1, h2, h3, h4⟩ := H
  refine ⟨fun r hr => ?_, by rw [h _ (by omega)]; exact h2, by rw [h _ (by omega)]; exact h3, by rw [h _ (by omega)]; exact h4⟩
  rw [h _ (by omega), h _ (by omega), h _ (by omega), h _ (by omega)]
  exact h1 r hr
theorem BVb_tell {f : Nat → Nat} {v : Cv} {n w wh x : Nat} (H : BVb f v) (hw : WHx n w wh) (hx : w = 2 ∨ w = 3 → x ≤ 1) : BVb (va_up f wh x) (cTell v n w x) := by
  obtain ⟨h1, h2, h3, h4⟩ := H
  have hb : ∀ z : Nat, z ≤ 1 → z = (decide (0 < z)).toNat := fun z hz => by
    rcases (show z = 0 ∨ z = 1 by omega) with rfl | rfl <;> rfl
  rcases hw with ⟨a1, a2, rfl⟩ | ⟨a1, a2, rfl, rfl⟩
  · rcases (show w = 0 ∨ w = 1 ∨ w = 2 ∨ w = 3 by omega) with rfl | rfl | rfl | rfl
    · refine ⟨fun r hr => ?_, by rw [up_ne (by omega)]; exact h2, by rw [up_ne (by omega)]; exact h3, by rw [up_ne (by omega)]; exact h4⟩
      obtain ⟨b1, b2, b3, b4⟩ := h1 r hr
      rw [up_ne (show 108 + r ≠ _ by omega), up_ne (show 36 + r ≠ _ by omega), up_ne (show 72 + r ≠ _ by omega)]
      refine ⟨?_, b2, b3, b4⟩
      show va_up f (36 * 0 + n) x r = va_up (cW v) n x r
      by_cases e : r = n
      · subst e; rw [up_eq, show 36 * 0 + r = r by omega, up_eq]
      · rw [up_ne e, up_ne (by omega)]; exact b1
    · refine ⟨fun r hr => ?_, by rw [up_ne (by omega)]; exact h2, by rw [up_ne (by omega)]; exact h3, by rw [up_ne (by omega)]; exact h4⟩
      obtain ⟨b1, b2, b3, b4⟩ := h1 r hr
      rw [up_ne (show r ≠ _ by omega), up_ne (show 108 + r ≠ _ by omega), up_ne (show 72 + r ≠ _ by omega)]
      refine ⟨b1, b2, ?_, b4⟩
      show va_up f (36 * 1 + n) x (36 + r) = va_up (cG v) n x r
      by_cases e : r = n
      · subst e; rw [up_eq, up_eq]
      · rw [up_ne e, up_ne (by omega)]; exact b3
    · refine ⟨fun r hr => ?_, by rw [up_ne (by omega)]; exact h2, by rw [up_ne (by omega)]; exact h3, by rw [up_ne (by omega)]; exact h4⟩
      obtain ⟨b1, b2, b3, b4⟩ := h1 r hr
      rw [up_ne (show r ≠ _ by omega), up_ne (show 108 + r ≠ _ by omega), up_ne (show 36 + r ≠ _ by omega)]
      refine ⟨b1, b2, b3, ?_⟩
      show va_up f (36 * 2 + n) x (72 + r) = (va_up (cC v) n (decide (0 < x)) r).toNat
      by_cases e : r = n
      · subst e; rw [up_eq, up_eq]; exact hb x (hx (Or.inl rfl))
      · rw [up_ne e, up_ne (by omega)]; exact b4
    · refine ⟨fun r hr => ?_, by rw [up_ne (by omega)]; exact h2, by rw [up_ne (by omega)]; exact h3, by rw [up_ne (by omega)]; exact h4⟩
      obtain ⟨b1, b2, b3, b4⟩ := h1 r hr
      rw [up_ne (show r ≠ _ by omega), up_ne (show 36 + r ≠ _ by omega), up_ne (show 72 + r ≠ _ by omega)]
      refine ⟨b1, ?_, b3, b4⟩
      show va_up f (36 * 3 + n) x (108 + r) = (va_up (cK v) n (decide (0 < x)) r).toNat
      by_cases e : r = n
      · subst e; rw [up_eq, up_eq]; exact hb x (hx (Or.inr rfl))
      · rw [up_ne e, up_ne (by omega)]; exact b2
  · have hr : ∀ r, r < 36 → va_up f (140 + w) x r = cW v r ∧ va_up f (140 + w) x (108 + r) = (cK v r).toNat ∧ va_up f (140 + w) x (36 + r) = cG v r ∧ va_up f (140 + w) x (72 + r) = (cC v r).toNat := fun r hr => by
      rw [up_ne (by omega), up_ne (by omega), up_ne (by omega), up_ne (by omega)]
      exact h1 r hr
    rcases (show w = 4 ∨ w = 5 ∨ w = 6 by omega) with rfl | rfl | rfl
    · exact ⟨hr, up_eq, by rw [up_ne (by omega)]; exact h3, by rw [up_ne (by omega)]; exact h4⟩
    · exact ⟨hr, by rw [up_ne (by omega)]; exact h2, up_eq, by rw [up_ne (by omega)]; exact h4⟩
    · exact ⟨hr, by rw [up_ne (by omega)]; exact h2, by rw [up_ne (by omega)]; exact h3, up_eq⟩
/-- the value that a change put in place, or took away -/
theorem BVb_num {f : Nat → Nat} {v : Cv} {n w wh : Nat} (H : BVb f v) (hw : WHx n w wh) : cNum v n w = f wh := by
  obtain ⟨h1, h2, h3, h4⟩ := H
  rcases hw with ⟨a1, a2, rfl⟩ | ⟨a1, a2, rfl, rfl⟩
  · obtain ⟨b1, b2, b3, b4⟩ := h1 n a2
    rcases (show w = 0 ∨ w = 1 ∨ w = 2 ∨ w = 3 by omega) with rfl | rfl | rfl | rfl
    · rw [show 36 * 0 + n = n by omega]; exact b1.symm
    · rw [show 36 * 1 + n = 36 + n by omega]; exact b3.symm
    · rw [show 36 * 2 + n = 72 + n by omega]; exact b4.symm
    · rw [show 36 * 3 + n = 108 + n by omega]; exact b2.symm
  · rcases (show w = 4 ∨ w = 5 ∨ w = 6 by omega) with rfl | rfl | rfl
    · exact h2.symm
    · exact h3.symm
    · exact h4.symm
theorem BVb_lt {f : Nat → Nat} {v : Cv} (H : BVb f v) (ok : okC v) {i : Nat} (hi : i < 147) : f i ≤ 99 := by
  obtain ⟨h1, h2, h3, h4⟩ := H
  obtain ⟨o1, o2, o3, o4, o5, o6, o7⟩ := ok
  have bt : ∀ x : Bool, x.toNat ≤ 1 := fun x => by cases x <;> decide
  by_cases e0 : i < 36
  · rw [(h1 i e0).1]; exact o1 i
  by_cases e1 : i < 72
  · have := (h1 (i - 36) (by omega)).2.2.1
    rw [show 36 + (i - 36) = i by omega] at this
    rw [this]; have := o2 (i - 36); omega
  by_cases e2 : i < 108
  · have := (h1 (i - 72) (by omega)).2.2.2
    rw [show 72 + (i - 72) = i by omega] at this
    rw [this]; have := bt (cC v (i - 72)); omega
  by_cases e3 : i < 144
  · have := (h1 (i - 108) (by omega)).2.1
    rw [show 108 + (i - 108) = i by omega] at this
    rw [this]; have := bt (cK v (i - 108)); omega
  rcases (show i = 144 ∨ i = 145 ∨ i = 146 by omega) with rfl | rfl | rfl <;> omega
/-! changes, saucers, shelves: both sides' pictures -/
def HR (b : MB) (K : Hk) : Prop := K.2.1 = gDone b ∧ K.2.2 = gKeptMany b ∧ ∀ i, i < gKeptMany b → WHx (K.1.1 i) (K.1.2.1 i) (gChangeAt b i) ∧ K.1.2.2.1 i = gChangeWas b i ∧ K.1.2.2.2 i = gChangeIs b i ∧ mayN (K.1.2.1 i) (gChangeWas b i) ∧ mayN (K.1.2.1 i) (gChangeIs b i)
def SaR (b : MB) (a : Su) (s : Rn) : Prop := a.2.1 = gBodies b ∧ (∀ i, i < gBodies b → a.1 i = gBodyKind b i) ∧ s.2 = gRan b ∧ ∀ j, j < min (gRan b) 24 → s.1 j = gTrace b j
def BYt (x : Int64) : Prop := x = x.toInt32.toInt64
def ShR (b : MB) (q : Nat) (sc : Int32) (rw : Bool) (so sz : Nat) (el : Nat → Int64) : Prop := so < 5 ∧ ((rw = false ∧ sc = gShelf b q ∧ (gShelf b q = -1 ∨ ∃ n, n < gBodies b ∧ gShelf b q = nI n)) ∨ (rw = true ∧ gShelf b q = nI (50 + so) ∧ sz = gMany b q ∧ (∀ j, j < 60 → el j = gItems b (60 * q + j)) ∧ (so = 0 → ∀ j, j < 60 → BYt (gItems b (60 * q + j)))))
/-- what holds of the numbers alone -/
def PI (b : MB) (v : Cv) (F : Lf) : Prop := BVb (gMay b) v ∧ LM b F ∧ HI b ∧ ShI b ∧ (∀ i, i < gBodies b → gBodyKind b i < 8) ∧ gRan b < 1000 ∧ gTapeMany b ≤ 120 ∧ (∀ i, i < gTapeMany b → gTape b i ≤ 255)
abbrev mainO (G : Cx) (k : Bool) : va_E := .inr (11, [.ref (gB G + 1), .ref (gB G + 4), .ref (gB G + 7), .ref (gB G + 16), .ref (gB G + 25), .ref (gB G + 29), .ref (gB G + 48), .ref (gB G + 55), .ref (gB G + 57), .ref (gB G + 62), .ref (gB G + 65), .ref (gB G + 78), .ref (gB G + 79), .int (bI k)])
abbrev shsO (G : Cx) : va_E := .inl (gc G 4, 6, .inr (.inr (.inr (.inr (fun j => some (gB G + (66 + 2 * j)))))))
abbrev behO (G : Cx) : va_E := .inl (gc G 3, 5, .inr (.inr (.inr (.inr (fun j => some (gB G + (33 + 3 * j)))))))
abbrev hisO (G : Cx) (K : Hk) : va_E := .inr (1, [.ref (gB G + 1), .ref (gB G + 58), .ref (gB G + 59), .ref (gB G + 60), .ref (gB G + 61), .int (nI K.2.1), .int (nI K.2.2)])
abbrev sauO (G : Cx) (a : Su) (s : Rn) : va_E := .inr (5, [.ref (gB G + 63), .ref (gB G + 64), .int (nI a.2.1), .int (nI s.2), .int (nI a.2.2.1), .int (nI a.2.2.2)])
def ci0 (G : Cx) (h : List va_E) (b : MB) : Prop := h[0]? = some (mainO G (gIsKept b))
def ci1 (G : Cx) (h : List va_E) (v : Cv) : Prop := cityAt G h 1 v
def ci2 (G : Cx) (h : List va_E) (b : MB) : Prop := ∃ w, cityAt G h 4 w ∧ (gIsKept b = true → (∀ r, r < 36 → gImageMay b r = cW w r ∧ gImageMay b (108 + r) = (cK w r).toNat) ∧ gImageMay b 146 = cT w)
def ci3 (G : Cx) (h : List va_E) (b : MB) (F : Lf) (c : Nat) : Prop := LR G h F c (gTape b) (gTapeMany b)
def ci4 (G : Cx) (h : List va_E) : Prop := ∃ s, h[25]? = some (tob G s) ∧ ∃ u, cityAt G h 26 u
def ci5 (G : Cx) (h : List va_E) : Prop := ∃ s : Wk, h[29]? = some (wkob G s) ∧ h[30]? = some (behO G) ∧ h[31]? = some (ints G 4 s.1) ∧ h[32]? = some (ints G 4 s.2.1) ∧ ∀ i, i < 5 → ∃ u, cityAt G h (33 + 3 * i) u
def ci6 (G : Cx) (h : List va_E) : Prop := ∃ s : Tn, h[48]? = some (unob G s) ∧ (∃ u, cityAt G h 49 u) ∧ ∃ u, cityAt G h 52 u
def ci7 (G : Cx) (h : List va_E) : Prop := h[55]? = some (.inr (10, [.ref (gB G + 1), .ref (gB G + 56)])) ∧ ∃ R : Nat → Int64, h[56]? = some (.inl (gc G 1, 36, .inr (.inl R)))
def ci8 (G : Cx) (h : List va_E) (b : MB) : Prop := ∃ K : Hk, h[57]? = some (hisO G K) ∧ h[58]? = some (ints G 40 K.1.1) ∧ h[59]? = some (ints G 40 K.1.2.1) ∧ h[60]? = some (ints G 40 K.1.2.2.1) ∧ h[61]? = some (ints G 40 K.1.2.2.2) ∧ HR b K
def ci9 (G : Cx) (h : List va_E) (b : MB) : Prop := ∃ (a : Su) (s : Rn), h[62]? = some (sauO G a s) ∧ h[63]? = some (ints G 50 a.1) ∧ h[64]? = some (ints G 24 s.1) ∧ SaR b a s
def ci10 (G : Cx) (h : List va_E) (b : MB) : Prop := h[65]? = some (shsO G) ∧ ∀ i, i < 6 → ∃ sc rw so sz el, shAt G h (66 + 2 * i) sc rw so sz el ∧ ShR b i sc rw so sz el
def ci11 (G : Cx) (h : List va_E) (b : MB) : Prop := (∃ l : Nat → Nat, h[78]? = some (ints G 5 l) ∧ ∀ j, j < 5 → l j = gLedNow b j) ∧ ∃ g : Nat → Nat, h[79]? = some (ints G 5 g) ∧ (gIsKept b = true → ∀ j, j < 5 → g j = gImageLed b j)
def COb (G : Cx) (h0 h : List va_E) (b : MB) (v : Cv) (F : Lf) (c : Nat) : Prop := (h.length = h0.length ∧ ∀ k, 80 ≤ k → h[k]? = h0[k]?) ∧ PI b v F ∧ ci0 G h b ∧ ci1 G h v ∧ ci2 G h b ∧ ci3 G h b F c ∧ ci4 G h ∧ ci5 G h ∧ ci6 G h ∧ ci7 G h ∧ ci8 G h b ∧ ci9 G h b ∧ ci10 G h b ∧ ci11 G h b
section Mv
variable {G : Cx} {h h1 h0 : List va_E} {b : MB} {v : Cv} {F : Lf} {c : Nat}
theorem ci0.mv (e : h1[0]? = h[0]?) (H : ci0 G h b) : ci0 G h1 b := e.trans H
theorem ci1.mv (e : ∀ k, 1 ≤ k → k ≤ 3 → h1[k]? = h[k]?) (H : ci1 G h v) : ci1 G h1 v := cityAt_of (fun k hk => e k (by omega) (by omega)) H
theorem ci2.mv (e : ∀ k, 4 ≤ k → k ≤ 6 → h1[k]? = h[k]?) (H : ci2 G h b) : ci2 G h1 b := by
  obtain ⟨w, q, r⟩ := H
  exact ⟨w, cityAt_of (fun k hk => e k (by omega) (by omega)) q, r⟩
theorem ci3.mv (e : ∀ k, 7 ≤ k → k ≤ 24 → h1[k]? = h[k]?) (H : ci3 G h b F c) : ci3 G h1 b F c := LR.out (fun k hk => e k (by omega) (by omega)) H
theorem ci4.mv (e : ∀ k, 25 ≤ k → k ≤ 28 → h1[k]? = h[k]?) (H : ci4 G h) : ci4 G h1 := by
  obtain ⟨s, q, u, r⟩ := H
  exact ⟨s, (e 25 (by omega) (by omega)).trans q, u, cityAt_of (fun k hk => e k (by omega) (by omega)) r⟩
theorem ci5.mv (e : ∀ k, 29 ≤ k → k ≤ 47 → h1[k]? = h[k]?) (H : ci5 G h) : ci5 G h1 := by
  obtain ⟨s, q1, q2, q3, q4, q5⟩ := H
  refine ⟨s, (e _ (by omega) (by omega)).trans q1, (e _ (by omega) (by omega)).trans q2, (e _ (by omega) (by omega)).trans q3, (e _ (by omega) (by omega)).trans q4, fun i hi => ?_⟩
  obtain ⟨u, r⟩ := q5 i hi
  exact ⟨u, cityAt_of (fun k hk => e k (by omega) (by omega)) r⟩
theorem ci6.mv (e : ∀ k, 48 ≤ k → k ≤ 54 → h1[k]? = h[k]?) (H : ci6 G h) : ci6 G h1 := by
  obtain ⟨s, q1, ⟨u, q2⟩, w, q3⟩ := H
  exact ⟨s, (e _ (by omega) (by omega)).trans q1, ⟨u, cityAt_of (fun k hk => e k (by omega) (by omega)) q2⟩, w, cityAt_of (fun k hk => e k (by omega) (by omega)) q3⟩
theorem ci7.mv (e : ∀ k, 55 ≤ k → k ≤ 56 → h1[k]? = h[k]?) (H : ci7 G h) : ci7 G h1 := by
  obtain ⟨q1, R, q2⟩ := H
  exact ⟨(e _ (by omega) (by omega)).trans q1, R, (e _ (by omega) (by omega)).trans q2⟩
theorem ci8.mv (e : ∀ k, 57 ≤ k → k ≤ 61 → h1[k]? = h[k]?) (H : ci8 G h b) : ci8 G h1 b := by
  obtain ⟨K, q1, q2, q3, q4, q5, q6⟩ := H
  exact ⟨K, (e _ (by omega) (by omega)).trans q1, (e _ (by omega) (by omega)).trans q2, (e _ (by omega) (by omega)).trans q3, (e _ (by omega) (by omega)).trans q4, (e _ (by omega) (by omega)).trans q5, q6⟩
theorem ci9.mv (e : ∀ k, 62 ≤ k → k ≤ 64 → h1[k]? = h[k]?) (H : ci9 G h b) : ci9 G h1 b := by
  obtain ⟨a, s, q1, q2, q3, q4⟩ := H
  exact ⟨a, s, (e _ (by omega) (by omega)).trans q1, (e _ (by omega) (by omega)).trans q2, (e _ (by omega) (by omega)).trans q3, q4⟩
theorem ci10.mv (e : ∀ k, 65 ≤ k → k ≤ 77 → h1[k]? = h[k]?) (H : ci10 G h b) : ci10 G h1 b := by
  obtain ⟨q1, q2⟩ := H
  refine ⟨(e _ (by omega) (by omega)).trans q1, fun i hi => ?_⟩
  obtain ⟨sc, rw, so, sz, el, r1, r2⟩ := q2 i hi
  exact ⟨sc, rw, so, sz, el, shAt_of r1 (e _ (by omega) (by omega)) (e _ (by omega) (by omega)), r2⟩
theorem ci11.mv (e : ∀ k, 78 ≤ k → k ≤ 79 → h1[k]? = h[k]?) (H : ci11 G h b) : ci11 G h1 b := by
  obtain ⟨⟨l, q1, q4⟩, g, q2, q3⟩ := H
  exact ⟨⟨l, (e _ (by omega) (by omega)).trans q1, q4⟩, g, (e _ (by omega) (by omega)).trans q2, q3⟩
theorem COb.c0 (H : COb G h0 h b v F c) : h[0]? = some (mainO G (gIsKept b)) := H.2.2.1
theorem COb.c1 (H : COb G h0 h b v F c) : cityAt G h 1 v := H.2.2.2.1
theorem COb.ok (H : COb G h0 h b v F c) : okC v := H.2.2.2.1.2.2.2
theorem COb.c3 (H : COb G h0 h b v F c) : LR G h F c (gTape b) (gTapeMany b) := H.2.2.2.2.2.1
theorem COb.bv (H : COb G h0 h b v F c) : BVb (gMay b) v := H.2.1.1
theorem COb.fr (H : COb G h0 h b v F c) : h.length = h0.length ∧ ∀ k, 80 ≤ k → h[k]? = h0[k]? := H.1
end Mv
/-- where only cells lo to hi (and the law's own rows) have changed -/
theorem LR_FR {G : Cx} {h h1 : List va_E} {F : Lf} {c n lo hi : Nat} {t : Nat → Nat} (hlo : 24 < lo ∨ hi < 7) (H : LR G h F c t n) (fr : FR lo hi h h1) (L : LawOK G h1 F) : LR G h1 F c t n :=
  LR.hour (fun k hk a1 a2 a3 => fr.2.1 k (by omega) a1 a2 a3) (fun k c n f hk e => fr.2.2 k c n f (by omega) e) L H
