/-! THE OBJECT: after a part has changed -/
theorem COb.th {G : Cx} {h h1 h0 : List va_E} {b : MB} {v : Cv} {F : Lf} {c : Nat} {x : Cv} {s : Nat × Nat × Int32} (T : TQ G h h1 v x F s) (H : COb G h0 h b v F c) : COb G h0 h1 b v F c := by
  obtain ⟨⟨le0, f0⟩, P, q0, q1, q2, q3, q4, q5, q6, q7, q8, q9, q10, q11⟩ := H
  have e := T.1.2.1
  exact ⟨⟨T.1.1.trans le0, fun k hk => (e k (by omega) (by omega) (by omega) (by omega)).trans (f0 k hk)⟩, P, q0.mv (e 0 (by omega) (by omega) (by omega) (by omega)), q1.mv (fun k a1 a2 => e k (by omega) (by omega) (by omega) (by omega)), q2.mv (fun k a1 a2 => e k (by omega) (by omega) (by omega) (by omega)), LR_FR (by omega) q3 T.1 T.2.2.1, (by obtain ⟨_, _, _, a4, u, hu, _⟩ := T; exact ⟨s, a4, u, hu⟩), q5.mv (fun k a1 a2 => e k (by omega) (by omega) (by omega) (by omega)), q6.mv (fun k a1 a2 => e k (by omega) (by omega) (by omega) (by omega)), q7.mv (fun k a1 a2 => e k (by omega) (by omega) (by omega) (by omega)), q8.mv (fun k a1 a2 => e k (by omega) (by omega) (by omega) (by omega)), q9.mv (fun k a1 a2 => e k (by omega) (by omega) (by omega) (by omega)), q10.mv (fun k a1 a2 => e k (by omega) (by omega) (by omega) (by omega)), q11.mv (fun k a1 a2 => e k (by omega) (by omega) (by omega) (by omega))⟩
theorem COb.wk {G : Cx} {h h1 h0 : List va_E} {b : MB} {v : Cv} {F : Lf} {c : Nat} {X : Nat → Cv} {s : Wk} (T : WQ G h h1 v X F s) (H : COb G h0 h b v F c) : COb G h0 h1 b v F c := by
  obtain ⟨⟨le0, f0⟩, P, q0, q1, q2, q3, q4, q5, q6, q7, q8, q9, q10, q11⟩ := H
  have e := T.1.2.1
  exact ⟨⟨T.1.1.trans le0, fun k hk => (e k (by omega) (by omega) (by omega) (by omega)).trans (f0 k hk)⟩, P, q0.mv (e 0 (by omega) (by omega) (by omega) (by omega)), q1.mv (fun k a1 a2 => e k (by omega) (by omega) (by omega) (by omega)), q2.mv (fun k a1 a2 => e k (by omega) (by omega) (by omega) (by omega)), LR_FR (by omega) q3 T.1 T.2.2.1, q4.mv (fun k a1 a2 => e k (by omega) (by omega) (by omega) (by omega)), (by obtain ⟨_, _, _, a4, a5, a6, a7, a8⟩ := T; exact ⟨s, a4, a5, a6, a7, fun i hi => (a8 i hi).imp (fun u hu => hu.1)⟩), q6.mv (fun k a1 a2 => e k (by omega) (by omega) (by omega) (by omega)), q7.mv (fun k a1 a2 => e k (by omega) (by omega) (by omega) (by omega)), q8.mv (fun k a1 a2 => e k (by omega) (by omega) (by omega) (by omega)), q9.mv (fun k a1 a2 => e k (by omega) (by omega) (by omega) (by omega)), q10.mv (fun k a1 a2 => e k (by omega) (by omega) (by omega) (by omega)), q11.mv (fun k a1 a2 => e k (by omega) (by omega) (by omega) (by omega))⟩
theorem COb.tu {G : Cx} {h h1 h0 : List va_E} {b : MB} {v : Cv} {F : Lf} {c : Nat} {x z : Cv} {s : Tn} (T : BQ G h h1 v x z F s) (H : COb G h0 h b v F c) : COb G h0 h1 b v F c := by
  obtain ⟨⟨le0, f0⟩, P, q0, q1, q2, q3, q4, q5, q6, q7, q8, q9, q10, q11⟩ := H
  have e := T.1.2.1
  exact ⟨⟨T.1.1.trans le0, fun k hk => (e k (by omega) (by omega) (by omega) (by omega)).trans (f0 k hk)⟩, P, q0.mv (e 0 (by omega) (by omega) (by omega) (by omega)), q1.mv (fun k a1 a2 => e k (by omega) (by omega) (by omega) (by omega)), q2.mv (fun k a1 a2 => e k (by omega) (by omega) (by omega) (by omega)), LR_FR (by omega) q3 T.1 T.2.2.1, q4.mv (fun k a1 a2 => e k (by omega) (by omega) (by omega) (by omega)), q5.mv (fun k a1 a2 => e k (by omega) (by omega) (by omega) (by omega)), (by obtain ⟨_, _, _, a4, ⟨u, hu, _⟩, w, hw, _⟩ := T; exact ⟨s, a4, ⟨u, hu⟩, w, hw⟩), q7.mv (fun k a1 a2 => e k (by omega) (by omega) (by omega) (by omega)), q8.mv (fun k a1 a2 => e k (by omega) (by omega) (by omega) (by omega)), q9.mv (fun k a1 a2 => e k (by omega) (by omega) (by omega) (by omega)), q10.mv (fun k a1 a2 => e k (by omega) (by omega) (by omega) (by omega)), q11.mv (fun k a1 a2 => e k (by omega) (by omega) (by omega) (by omega))⟩
theorem COb.toT {G : Cx} {h h0 : List va_E} {b : MB} {v : Cv} {F : Lf} {c : Nat} (H : COb G h0 h b v F c) : ∃ s u, TQ G h h v u F s := by
  obtain ⟨_, P, q0, q1, q2, q3, ⟨s, a4, u, hu⟩, _⟩ := H
  exact ⟨s, u, FR.refl _ _ _, q1, LR.ok q3, a4, u, hu, SC.refl u⟩
theorem COb.toW {G : Cx} {h h0 : List va_E} {b : MB} {v : Cv} {F : Lf} {c : Nat} (H : COb G h0 h b v F c) : ∃ s X, WQ G h h v X F s := by
  obtain ⟨_, P, q0, q1, q2, q3, q4, ⟨s, a4, a5, a6, a7, a8⟩, _⟩ := H
  have hx : ∀ i, ∃ u, i < 5 → cityAt G h (33 + 3 * i) u := fun i => by
    by_cases z : i < 5
    · obtain ⟨u, hu⟩ := a8 i z; exact ⟨u, fun _ => hu⟩
    · exact ⟨v, fun y => absurd y z⟩
  obtain ⟨X, hX⟩ := Classical.axiomOfChoice hx
  exact ⟨s, X, FR.refl _ _ _, q1, LR.ok q3, a4, a5, a6, a7, fun i hi => ⟨X i, hX i hi, SC.refl _⟩⟩
theorem COb.toB {G : Cx} {h h0 : List va_E} {b : MB} {v : Cv} {F : Lf} {c : Nat} (H : COb G h0 h b v F c) : ∃ s x z, BQ G h h v x z F s := by
  obtain ⟨_, P, q0, q1, q2, q3, q4, q5, ⟨s, a4, ⟨u, hu⟩, w, hw⟩, _⟩ := H
  exact ⟨s, u, w, FR.refl _ _ _, q1, LR.ok q3, a4, ⟨u, hu, SC.refl u⟩, w, hw, SC.refl w⟩
theorem COb.toY {G : Cx} {h h0 : List va_E} {b : MB} {v : Cv} {F : Lf} {c : Nat} (H : COb G h0 h b v F c) : ∃ R, YQ G h h v R := by
  obtain ⟨_, P, q0, q1, q2, q3, q4, q5, q6, ⟨a1, R, a2⟩, _⟩ := H
  exact ⟨R, rfl, fun _ _ => rfl, q1, a1, a2⟩
theorem COb.toH {G : Cx} {h h0 : List va_E} {b : MB} {v : Cv} {F : Lf} {c : Nat} (H : COb G h0 h b v F c) : ∃ K, HQ G h h v K ∧ HR b K := by
  obtain ⟨_, P, q0, q1, q2, q3, q4, q5, q6, q7, ⟨K, a1, a2, a3, a4, a5, a6⟩, _⟩ := H
  exact ⟨K, ⟨rfl, fun _ _ => rfl, q1, a1, a2, a3, a4, a5⟩, a6⟩
theorem COb.toS {G : Cx} {h h0 : List va_E} {b : MB} {v : Cv} {F : Lf} {c : Nat} (H : COb G h0 h b v F c) : ∃ a s, SU G h h a s ∧ SaR b a s := by
  obtain ⟨_, P, q0, q1, q2, q3, q4, q5, q6, q7, q8, ⟨a, s, a1, a2, a3, a4⟩, _⟩ := H
  exact ⟨a, s, ⟨rfl, fun _ _ => rfl, a1, a2, a3⟩, a4⟩
theorem COb.toQ {G : Cx} {h h0 : List va_E} {b : MB} {v : Cv} {F : Lf} {c : Nat} (H : COb G h0 h b v F c) {q : Nat} (hq : q < 6) : ∃ sc rw so sz el, SW9 G h h (66 + 2 * q) sc rw so sz el ∧ ShR b q sc rw so sz el := by
  obtain ⟨_, P, q0, q1, q2, q3, q4, q5, q6, q7, q8, q9, ⟨_, a2⟩, _⟩ := H
  obtain ⟨sc, rw, so, sz, el, r1, r2⟩ := a2 q hq
  exact ⟨sc, rw, so, sz, el, SW9.refl r1, r2⟩
theorem COb.c65 {G : Cx} {h h0 : List va_E} {b : MB} {v : Cv} {F : Lf} {c : Nat} (H : COb G h0 h b v F c) : h[65]? = some (shsO G) := H.2.2.2.2.2.2.2.2.2.2.2.2.1.1
theorem COb.c78 {G : Cx} {h h0 : List va_E} {b : MB} {v : Cv} {F : Lf} {c : Nat} (H : COb G h0 h b v F c) : ∃ l : Nat → Nat, h[78]? = some (ints G 5 l) ∧ ∀ j, j < 5 → l j = gLedNow b j := H.2.2.2.2.2.2.2.2.2.2.2.2.2.1
theorem COb.cob {G : Cx} {h h0 : List va_E} {b : MB} {v : Cv} {F : Lf} {c : Nat} (H : COb G h0 h b v F c) {i : Nat} (hi : i < 6) : ∃ fs, h[66 + 2 * i]? = some (.inr (6, fs)) := by
  obtain ⟨sc, rw, so, sz, el, r1, r2⟩ := H.toQ hi
  exact ⟨_, r1.2.2.1⟩
theorem COb.wa {G : Cx} {h h1 h0 : List va_E} {b : MB} {v : Cv} {F : Lf} {c : Nat} {R : Nat → Int64} (T : YQ G h h1 v R) (H : COb G h0 h b v F c) : COb G h0 h1 b v F c := by
  obtain ⟨⟨le0, f0⟩, P, q0, q1, q2, q3, q4, q5, q6, q7, q8, q9, q10, q11⟩ := H
  have e := T.2.1
  exact ⟨⟨T.1.trans le0, fun k hk => (e k (by omega)).trans (f0 k hk)⟩, P, q0.mv (e 0 (by omega)), q1.mv (fun k a1 a2 => e k (by omega)), q2.mv (fun k a1 a2 => e k (by omega)), q3.mv (fun k a1 a2 => e k (by omega)), q4.mv (fun k a1 a2 => e k (by omega)), q5.mv (fun k a1 a2 => e k (by omega)), q6.mv (fun k a1 a2 => e k (by omega)), ⟨T.2.2.2.1, R, T.2.2.2.2⟩, q8.mv (fun k a1 a2 => e k (by omega)), q9.mv (fun k a1 a2 => e k (by omega)), q10.mv (fun k a1 a2 => e k (by omega)), q11.mv (fun k a1 a2 => e k (by omega))⟩
theorem COb.hl {G : Cx} {h h1 h0 : List va_E} {b : MB} {v : Cv} {F : Lf} {c : Nat} (T : HL h h1) (L : LawOK G h1 F) (H : COb G h0 h b v F c) : COb G h0 h1 b v F c := by
  obtain ⟨⟨le0, f0⟩, P, q0, q1, q2, q3, q4, q5, q6, q7, q8, q9, q10, q11⟩ := H
  have e := T.2.1
  exact ⟨⟨T.1.trans le0, fun k hk => (e k (by omega) (by omega) (by omega)).trans (f0 k hk)⟩, P, q0.mv (e 0 (by omega) (by omega) (by omega)), q1.mv (fun k a1 a2 => e k (by omega) (by omega) (by omega)), q2.mv (fun k a1 a2 => e k (by omega) (by omega) (by omega)), LR_FR (lo := 1) (hi := 0) (by omega) q3 (FR.hl T) L, q4.mv (fun k a1 a2 => e k (by omega) (by omega) (by omega)), q5.mv (fun k a1 a2 => e k (by omega) (by omega) (by omega)), q6.mv (fun k a1 a2 => e k (by omega) (by omega) (by omega)), q7.mv (fun k a1 a2 => e k (by omega) (by omega) (by omega)), q8.mv (fun k a1 a2 => e k (by omega) (by omega) (by omega)), q9.mv (fun k a1 a2 => e k (by omega) (by omega) (by omega)), q10.mv (fun k a1 a2 => e k (by omega) (by omega) (by omega)), q11.mv (fun k a1 a2 => e k (by omega) (by omega) (by omega))⟩
theorem COb.city {G : Cx} {h h1 h0 : List va_E} {b : MB} {v : Cv} {F : Lf} {c : Nat} {v' : Cv} {f : Nat → Nat} (hl : h1.length = h.length) (e : ∀ k, k < 1 ∨ 3 < k → h1[k]? = h[k]?) (T : cityAt G h1 1 v') (hb : BVb f v') (H : COb G h0 h b v F c) : COb G h0 h1 (uMay b f) v' F c := by
  obtain ⟨⟨le0, f0⟩, P, q0, q1, q2, q3, q4, q5, q6, q7, q8, q9, q10, q11⟩ := H
  exact ⟨⟨hl.trans le0, fun k hk => (e k (by omega)).trans (f0 k hk)⟩, ⟨hb, P.2⟩, q0.mv (e 0 (by omega)), T, q2.mv (fun k a1 a2 => e k (by omega)), q3.mv (fun k a1 a2 => e k (by omega)), q4.mv (fun k a1 a2 => e k (by omega)), q5.mv (fun k a1 a2 => e k (by omega)), q6.mv (fun k a1 a2 => e k (by omega)), q7.mv (fun k a1 a2 => e k (by omega)), q8.mv (fun k a1 a2 => e k (by omega)), q9.mv (fun k a1 a2 => e k (by omega)), q10.mv (fun k a1 a2 => e k (by omega)), q11.mv (fun k a1 a2 => e k (by omega))⟩
theorem COb.hour {G : Cx} {h h1 h0 : List va_E} {b : MB} {v : Cv} {F : Lf} {c : Nat} {v' : Cv} {f : Nat → Nat} (T : CY G h h1 1 v' F) (hb : BVb f v') (H : COb G h0 h b v F c) : COb G h0 h1 (uMay b f) v' F c := by
  obtain ⟨⟨le0, f0⟩, P, q0, q1, q2, q3, q4, q5, q6, q7, q8, q9, q10, q11⟩ := H
  have e := T.2.1.2.1
  exact ⟨⟨T.2.1.1.trans le0, fun k hk => (e k (by omega) (by omega) (by omega) (by omega)).trans (f0 k hk)⟩, ⟨hb, P.2⟩, q0.mv (e 0 (by omega) (by omega) (by omega) (by omega)), T.2.2.1, q2.mv (fun k a1 a2 => e k (by omega) (by omega) (by omega) (by omega)), LR_FR (lo := 1) (hi := 3) (by omega) q3 (FR.hx T.2.1 (by omega)) T.2.2.2, q4.mv (fun k a1 a2 => e k (by omega) (by omega) (by omega) (by omega)), q5.mv (fun k a1 a2 => e k (by omega) (by omega) (by omega) (by omega)), q6.mv (fun k a1 a2 => e k (by omega) (by omega) (by omega) (by omega)), q7.mv (fun k a1 a2 => e k (by omega) (by omega) (by omega) (by omega)), q8.mv (fun k a1 a2 => e k (by omega) (by omega) (by omega) (by omega)), q9.mv (fun k a1 a2 => e k (by omega) (by omega) (by omega) (by omega)), q10.mv (fun k a1 a2 => e k (by omega) (by omega) (by omega) (by omega)), q11.mv (fun k a1 a2 => e k (by omega) (by omega) (by omega) (by omega))⟩
theorem COb.led {G : Cx} {h h1 h0 : List va_E} {b : MB} {v : Cv} {F : Lf} {c : Nat} {g l : Nat → Nat} (e1 : h1 = h.set 78 (ints G 5 l)) (hl : ∀ j, j < 5 → l j = g j) (H : COb G h0 h b v F c) : COb G h0 h1 (uLedNow b g) v F c := by
  obtain ⟨⟨le0, f0⟩, P, q0, q1, q2, q3, q4, q5, q6, q7, q8, q9, q10, q11⟩ := H
  subst e1
  have e : ∀ k, k ≠ 78 → (h.set 78 (ints G 5 l))[k]? = h[k]? := fun k hk => hs_ne (fun q => hk q.symm) rfl
  obtain ⟨l0, q11c, _⟩ := q11.1
  have q11a := hs_eq (e := ints G 5 l) q11c
  have q11b : ∃ g2 : Nat → Nat, (h.set 78 (ints G 5 l))[79]? = some (ints G 5 g2) ∧ (gIsKept b = true → ∀ j, j < 5 → g2 j = gImageLed b j) := by
    obtain ⟨g2, a1, a2⟩ := q11.2
    exact ⟨g2, hs_ne (by omega) a1, a2⟩
  exact ⟨⟨List.length_set.trans le0, fun k hk => (e k (by omega)).trans (f0 k hk)⟩, P, q0.mv (e 0 (by omega)), q1.mv (fun k a1 a2 => e k (by omega)), q2.mv (fun k a1 a2 => e k (by omega)), q3.mv (fun k a1 a2 => e k (by omega)), q4.mv (fun k a1 a2 => e k (by omega)), q5.mv (fun k a1 a2 => e k (by omega)), q6.mv (fun k a1 a2 => e k (by omega)), q7.mv (fun k a1 a2 => e k (by omega)), q8.mv (fun k a1 a2 => e k (by omega)), q9.mv (fun k a1 a2 => e k (by omega)), q10.mv (fun k a1 a2 => e k (by omega)), ⟨⟨l, q11a, hl⟩, q11b⟩⟩
theorem COb.hq {G : Cx} {h h1 h0 : List va_E} {b : MB} {v : Cv} {F : Lf} {c : Nat} {b1 : MB1} {v' : Cv} {K : Hk} (T : HQ G h h1 v' K) (hb : BVb b1.1 v') (hi : HI (b1, b.2)) (hr : HR (b1, b.2) K) (H : COb G h0 h b v F c) : COb G h0 h1 (b1, b.2) v' F c := by
  obtain ⟨⟨le0, f0⟩, P, q0, q1, q2, q3, q4, q5, q6, q7, q8, q9, q10, q11⟩ := H
  obtain ⟨t0, e, t1, t2, t3, t4, t5, t6⟩ := T
  exact ⟨⟨t0.trans le0, fun k hk => (e k (by omega)).trans (f0 k hk)⟩, ⟨hb, P.2.1, hi, P.2.2.2⟩, q0.mv (e 0 (by omega)), t1, q2.mv (fun k a1 a2 => e k (by omega)), q3.mv (fun k a1 a2 => e k (by omega)), q4.mv (fun k a1 a2 => e k (by omega)), q5.mv (fun k a1 a2 => e k (by omega)), q6.mv (fun k a1 a2 => e k (by omega)), q7.mv (fun k a1 a2 => e k (by omega)), ⟨K, t2, t3, t4, t5, t6, hr⟩, q9.mv (fun k a1 a2 => e k (by omega)), q10.mv (fun k a1 a2 => e k (by omega)), q11.mv (fun k a1 a2 => e k (by omega))⟩
theorem COb.su {G : Cx} {h h1 h0 : List va_E} {b : MB} {v : Cv} {F : Lf} {c : Nat} {a : Su} {s : Rn} {k9 : Nat} {kd tr : Nat → Nat} {rn9 : Nat} (T : SU G h h1 a s) (hr : SaR (uRan (uTrace (uBodies (uBodyKind b kd) k9) tr) rn9) a s) (h50 : gBodies b ≤ k9 ∧ k9 ≤ 50) (hk : ∀ i, i < k9 → kd i < 8) (hrn : rn9 < 1000) (H : COb G h0 h b v F c) : COb G h0 h1 (uRan (uTrace (uBodies (uBodyKind b kd) k9) tr) rn9) v F c := by
  obtain ⟨⟨le0, f0⟩, P, q0, q1, q2, q3, q4, q5, q6, q7, q8, q9, q10, q11⟩ := H
  obtain ⟨t0, e, t1, t2, t3⟩ := T
  have hS : ShI (uRan (uTrace (uBodies (uBodyKind b kd) k9) tr) rn9) := by
    obtain ⟨_, z⟩ := P.2.2.2.1
    refine ⟨h50.2, fun q hq => ?_⟩
    obtain ⟨z1, z2⟩ := z q hq
    refine ⟨?_, z2⟩
    rcases z1 with z1 | ⟨n, y1, y2⟩ | z1
    · exact Or.inl z1
    · exact Or.inr (Or.inl ⟨n, Nat.lt_of_lt_of_le y1 h50.1, y2⟩)
    · exact Or.inr (Or.inr z1)
  have h10 : ci10 G h1 (uRan (uTrace (uBodies (uBodyKind b kd) k9) tr) rn9) := by
    obtain ⟨z1, z2⟩ := q10.mv (fun k a1 a2 => e k (by omega))
    refine ⟨z1, fun i hi => ?_⟩
    obtain ⟨sc, rw, so, sz, el, y1, y2, y3⟩ := z2 i hi
    refine ⟨sc, rw, so, sz, el, y1, y2, ?_⟩
    rcases y3 with ⟨w1, w2, w3⟩ | y3
    · refine Or.inl ⟨w1, w2, ?_⟩
      rcases w3 with w3 | ⟨n, x1, x2⟩
      · exact Or.inl w3
      · exact Or.inr ⟨n, Nat.lt_of_lt_of_le x1 h50.1, x2⟩
    · exact Or.inr y3
  exact ⟨⟨t0.trans le0, fun k hk => (e k (by omega)).trans (f0 k hk)⟩, ⟨P.1, P.2.1, P.2.2.1, hS, hk, hrn, P.2.2.2.2.2.2⟩, q0.mv (e 0 (by omega)), q1.mv (fun k a1 a2 => e k (by omega)), q2.mv (fun k a1 a2 => e k (by omega)), q3.mv (fun k a1 a2 => e k (by omega)), q4.mv (fun k a1 a2 => e k (by omega)), q5.mv (fun k a1 a2 => e k (by omega)), q6.mv (fun k a1 a2 => e k (by omega)), q7.mv (fun k a1 a2 => e k (by omega)), q8.mv (fun k a1 a2 => e k (by omega)), ⟨a, s, t1, t2, t3, hr⟩, h10, q11.mv (fun k a1 a2 => e k (by omega))⟩
theorem COb.sh {G : Cx} {h h1 h0 : List va_E} {b : MB} {v : Cv} {F : Lf} {c : Nat} {q : Nat} {sc : Int32} {rw : Bool} {so sz : Nat} {el : Nat → Int64} {sh : Nat → Int32} {my : Nat → Nat} {it : Nat → Int64} (hq : q < 6) (T : SW9 G h h1 (66 + 2 * q) sc rw so sz el) (hr : ShR (uItems (uMany (uShelf b sh) my) it) q sc rw so sz el) (ho : ∀ i, i < 6 → i ≠ q → sh i = gShelf b i ∧ my i = gMany b i ∧ ∀ j, j < 60 → it (60 * i + j) = gItems b (60 * i + j)) (hS : ShI (uItems (uMany (uShelf b sh) my) it)) (H : COb G h0 h b v F c) : COb G h0 h1 (uItems (uMany (uShelf b sh) my) it) v F c := by
  obtain ⟨⟨le0, f0⟩, P, q0, q1, q2, q3, q4, q5, q6, q7, q8, q9, q10, q11⟩ := H
  obtain ⟨t0, e, t1⟩ := T
  have h10 : ci10 G h1 (uItems (uMany (uShelf b sh) my) it) := by
    obtain ⟨z1, z2⟩ := q10
    refine ⟨(e _ (by omega) (by omega)).trans z1, fun i hi => ?_⟩
    by_cases z : i = q
    · subst z; exact ⟨sc, rw, so, sz, el, t1, hr⟩
    · obtain ⟨sc2, rw2, so2, sz2, el2, y1, y2, y3⟩ := z2 i hi
      obtain ⟨o1, o2, o3⟩ := ho i hi z
      refine ⟨sc2, rw2, so2, sz2, el2, shAt_of y1 (e _ (by omega) (by omega)) (e _ (by omega) (by omega)), y2, ?_⟩
      show (rw2 = false ∧ sc2 = sh i ∧ (sh i = -1 ∨ ∃ n, n < gBodies b ∧ sh i = nI n)) ∨ (rw2 = true ∧ sh i = nI (50 + so2) ∧ sz2 = my i ∧ (∀ j, j < 60 → el2 j = it (60 * i + j)) ∧ (so2 = 0 → ∀ j, j < 60 → BYt (it (60 * i + j))))
      rw [o1, o2]
      rcases y3 with y3 | ⟨w1, w2, w3, w4, w5⟩
      · exact Or.inl y3
      · exact Or.inr ⟨w1, w2, w3, fun j hj => by rw [o3 j hj]; exact w4 j hj, fun z0 j hj => by rw [o3 j hj]; exact w5 z0 j hj⟩
  exact ⟨⟨t0.trans le0, fun k hk => (e k (by omega) (by omega)).trans (f0 k hk)⟩, ⟨P.1, P.2.1, P.2.2.1, hS, P.2.2.2.2⟩, q0.mv (e 0 (by omega) (by omega)), q1.mv (fun k a1 a2 => e k (by omega) (by omega)), q2.mv (fun k a1 a2 => e k (by omega) (by omega)), q3.mv (fun k a1 a2 => e k (by omega) (by omega)), q4.mv (fun k a1 a2 => e k (by omega) (by omega)), q5.mv (fun k a1 a2 => e k (by omega) (by omega)), q6.mv (fun k a1 a2 => e k (by omega) (by omega)), q7.mv (fun k a1 a2 => e k (by omega) (by omega)), q8.mv (fun k a1 a2 => e k (by omega) (by omega)), q9.mv (fun k a1 a2 => e k (by omega) (by omega)), h10, q11.mv (fun k a1 a2 => e k (by omega) (by omega))⟩
theorem COb.tp {G : Cx} {h h1 h0 : List va_E} {b : MB} {v : Cv} {F : Lf} {c : Nat} {t : Nat → Nat} {n : Nat} (hl : h1.length = h.length) (e : ∀ k, k ≠ 16 → k ≠ 17 → h1[k]? = h[k]?) (T : LR G h1 F c t n) (hn : n ≤ 120) (h255 : ∀ i, i < n → t i ≤ 255) (H : COb G h0 h b v F c) : COb G h0 h1 (uTapeMany (uTape b t) n) v F c := by
  obtain ⟨⟨le0, f0⟩, P, q0, q1, q2, q3, q4, q5, q6, q7, q8, q9, q10, q11⟩ := H
  exact ⟨⟨hl.trans le0, fun k hk => (e k (by omega) (by omega)).trans (f0 k hk)⟩, ⟨P.1, P.2.1, P.2.2.1, P.2.2.2.1, P.2.2.2.2.1, P.2.2.2.2.2.1, hn, h255⟩, q0.mv (e 0 (by omega) (by omega)), q1.mv (fun k a1 a2 => e k (by omega) (by omega)), q2.mv (fun k a1 a2 => e k (by omega) (by omega)), T, q4.mv (fun k a1 a2 => e k (by omega) (by omega)), q5.mv (fun k a1 a2 => e k (by omega) (by omega)), q6.mv (fun k a1 a2 => e k (by omega) (by omega)), q7.mv (fun k a1 a2 => e k (by omega) (by omega)), q8.mv (fun k a1 a2 => e k (by omega) (by omega)), q9.mv (fun k a1 a2 => e k (by omega) (by omega)), q10.mv (fun k a1 a2 => e k (by omega) (by omega)), q11.mv (fun k a1 a2 => e k (by omega) (by omega))⟩
