set_option maxRecDepth 100000 in
set_option maxHeartbeats 4000000 in
theorem m_triesRound {G : Cx} {h0 : List va_E} {b : MB} {p0 : MP} {t0 : MT} {o0 : MO} {v : Cv} {F : Lf} {r m : Nat} (hz : gz G = false) (hb : BV (b, p0, t0, o0) v) (okv : okC v) (hL : LM b F) (hr : r < 36) (hm4 : m ≤ 4) : ∀ (j : Nat) {d : Nat} {h : List va_E} {p : MP} {t : MT} {o : MO} {e : Nat} {P : Nat → Nat} {C : Nat → Cv} {Q : Option Value → List va_E → Prop}, 76 + j ≤ d → MS G h0 h (b, p, t, o) → e + j = m → WAY F r v o.2.2.1 e P C → o.2.2.2.2.1 ≤ 1000000 → (∀ h1 p1 t1 o1, sOf o1 = goN F m j (P e) (C e) e (sOf o) → MS G h0 h1 (b, p1, t1, o1) → o1.2.1 = o.2.1 → Q none h1) → AM G yX12_triesRound cX12_triesRound 6 none d 0 0 [.ref (gB G + 80), .int (nI r), .int (nI e), .int (nI m)] h Q := by
  intro j
  induction j with
  | zero =>
    intro d h p t o e P C Q hd hm hej hP hf k
    obtain rfl : e = m := by omega
    exact m_roundEnd (by omega) hz hm hb okv hL hr hm4 hf hP k
  | succ j ihj =>
    intro d h p t o e P C Q hd hm hej hP hf k
    obtain ⟨d, rfl, he⟩ := dpos hd
    obtain ⟨g, hg⟩ : ∃ g : Nat → Nat → Wk → Wk, g = fun w o s => goN F m j o (stepC F (C e) o) (e + 1) (va_up s.1 e w, s.2.1, s.2.2) := ⟨_, rfl⟩
    have ke : goN F m (j + 1) (P e) (C e) e (sOf o) = wfold g (P e) (sOf o) 5 := by rw [hg]; rfl
    rw [ke] at k
    have pe36 := hP.lt hr e (Nat.le_refl e)
    have gpre : ∀ w i, i < e → (wfold g (P e) (sOf o) w).1 i = o.2.2.1 i := fun w i hi => wfold_pre (e := e) (fun w o s i hi => by rw [hg]; exact (goN_pre j o _ (e + 1) _ i (by omega)).trans (up_ne (by omega))) w i hi
    have gle : ∀ w o (s : Wk), s.2.2 ≤ 1000000 → (g w o s).2.2 ≤ 1000000 := fun w o s hs => by rw [hg]; exact goN_le j o _ _ _ hs
    have lb : ∀ (n w : Nat) (h1 : List va_E) (p1 : MP) (t1 : MT) (o1 : MO), 5 - w < n → w ≤ 5 → sOf o1 = wfold g (P e) (sOf o) w → o1.2.2.2.2.1 ≤ 1000000 → MS G h0 h1 (b, p1, t1, o1) → o1.2.1 = o.2.1 → AW G yX12_triesRound cX12_triesRound 6 none (rmx (d + 1) 0 0) (ZQ G 0 0 (h.length + 0) Q) 0 0 192 [some (.ref (gB G + 80)), some (.int (nI (r))), some (.int (nI (e))), some (.int (nI (m))), some (.int (nI (P e))), some (.int (nI (w)))] [] h1 := by
      intro n
      induction n with
      | zero => intro w h1 p1 t1 o1 hn; exact absurd hn (Nat.not_lt_zero _)
      | succ n ih =>
        intro w h1 p1 t1 o1 hn hw hs1 hf1 hm1 hc1
        have hp1 : ∀ i, i < e → o1.2.2.1 i = o.2.2.1 i := fun i hi => by
          have := gpre w i hi
          rw [← hs1] at this; exact this
        refine a_iload_5 (pc := 192) dX12_triesRound_192 ?_
        refine a_iconst (pc := 194) (v := nI 4) dX12_triesRound_194 (by decide) ?_
        refine n_icmp_gt (tgt := 237) dX12_triesRound_195 (by decide) (by omega) (by decide) (fun c_195 => ?_) (fun c_195 => ?_)
        · have w5 : w = 5 := by omega
          subst w5
          exact a_vret (pc := 237) dX12_triesRound_237 rfl (zf hz) (k _ _ _ _ hs1 hm1 hc1)
        · refine a_iload_5 (pc := 198) dX12_triesRound_198 ?_
          refine a_iconst (pc := 200) (v := nI 4) dX12_triesRound_200 (by decide) ?_
          refine n_icmp_eq (tgt := 214) dX12_triesRound_201 (by decide) (by omega) (by decide) (fun c_201 => ?_) (fun c_201 => ?_)
          · obtain ⟨oo, ho⟩ : ∃ oo, bes5 (P e) w = some oo := ⟨P e, if_pos (by omega)⟩
            refine a_aloadn_0 (pc := 214) dX12_triesRound_214 ?_
            refine mg_47 hm1 rfl dX12_triesRound_215 ?_
            refine a_iloadn_2 (pc := 218) dX12_triesRound_218 ?_
            refine a_iload_5 (pc := 219) dX12_triesRound_219 ?_
            refine ms_walked (j := e) (x := w) hm1 dX12_triesRound_221 (by omega) (fun h4 hm4 => ?_)
            refine a_aloadn_0 (pc := 222) dX12_triesRound_222 ?_
            refine a_iloadn_1 (pc := 223) dX12_triesRound_223 ?_
            refine a_iloadn_2 (pc := 224) dX12_triesRound_224 ?_
            refine a_iconst (pc := 225) (v := nI 1) dX12_triesRound_225 (by decide) ?_
            refine n_iadd dX12_triesRound_226 ?_
            refine a_iloadn_3 (pc := 227) dX12_triesRound_227 ?_
            refine cv_X12_275 (pc := 228) rfl dX12_triesRound_228 hm4.2.2.1 (Nat.le_of_ble_eq_true rfl) ?_
            refine ihj (C := fun i => if i = e + 1 then stepC F (C e) oo else C i) (P := va_up P (e + 1) oo) (by omega) hm4 (by omega) (hP.more (w := w) (fun i hi => (up_ne (by omega)).trans (hp1 i hi)) up_eq (by omega) ho) hf1 (fun h7 p7 t7 o7 e7 hm7 c7 => ?_)
            have e7 : sOf o7 = goN F m j (va_up P (e + 1) oo (e + 1)) (if e + 1 = e + 1 then stepC F (C e) oo else C (e + 1)) (e + 1) (va_up o1.2.2.1 e w, o1.2.2.2.1, o1.2.2.2.2.1) := e7
            rw [up_eq, if_pos rfl] at e7
            have e8 : sOf o7 = g w oo (sOf o1) := by rw [hg]; exact e7
            refine a_iinc_5 (pc := 231) (v := nI (w + 1)) dX12_triesRound_231 (nI_add _ _) (by decide) (by first | rfl | trivial) ?_
            refine a_goto (pc := 234) (tgt := 192) dX12_triesRound_234 (by decide) ?_
            exact ih (w + 1) _ _ _ o7 (by omega) (by omega) (by rw [wfold, ho, ← hs1]; exact e8) (by have := gle w oo (sOf o1) hf1; rw [← e8] at this; exact this) hm7 (c7.trans hc1)
          · refine a_iload_4 (pc := 204) dX12_triesRound_204 ?_
            refine a_iload_5 (pc := 206) dX12_triesRound_206 ?_
            refine cs_X12_193 (pc := 208) rfl dX12_triesRound_208 (Nat.le_of_ble_eq_true rfl) ?_
            refine m_beside (by omega) hz (by omega) (by omega) ?_
            cases hb5 : bsd (P e) w with
            | none =>
              refine a_if_lt (pc := 211) (tgt := 231) dX12_triesRound_211 (by decide) (fun c_211 => ?_) (fun c_211 => absurd c_211 (by decide))
              refine a_iinc_5 (pc := 231) (v := nI (w + 1)) dX12_triesRound_231 (nI_add _ _) (by decide) (by first | rfl | trivial) ?_
              refine a_goto (pc := 234) (tgt := 192) dX12_triesRound_234 (by decide) ?_
              exact ih (w + 1) _ _ _ o1 (by omega) (by omega) (by rw [wfold, bes5, if_neg (by omega), hb5]; exact hs1) hf1 hm1 hc1
            | some oo =>
              have ho : bes5 (P e) w = some oo := by rw [bes5, if_neg (by omega)]; exact hb5
              have oo36 := bes5_lt pe36 ho
              refine a_topi (nI oo) rfl ?_
              refine n_if_lt (tgt := 231) dX12_triesRound_211 (by decide) (by omega) ?_
              refine a_aloadn_0 (pc := 214) dX12_triesRound_214 ?_
              refine mg_47 hm1 rfl dX12_triesRound_215 ?_
              refine a_iloadn_2 (pc := 218) dX12_triesRound_218 ?_
              refine a_iload_5 (pc := 219) dX12_triesRound_219 ?_
              refine ms_walked (j := e) (x := w) hm1 dX12_triesRound_221 (by omega) (fun h4 hm4 => ?_)
              refine a_aloadn_0 (pc := 222) dX12_triesRound_222 ?_
              refine a_iloadn_1 (pc := 223) dX12_triesRound_223 ?_
              refine a_iloadn_2 (pc := 224) dX12_triesRound_224 ?_
              refine a_iconst (pc := 225) (v := nI 1) dX12_triesRound_225 (by decide) ?_
              refine n_iadd dX12_triesRound_226 ?_
              refine a_iloadn_3 (pc := 227) dX12_triesRound_227 ?_
              refine cv_X12_275 (pc := 228) rfl dX12_triesRound_228 hm4.2.2.1 (Nat.le_of_ble_eq_true rfl) ?_
              refine ihj (C := fun i => if i = e + 1 then stepC F (C e) oo else C i) (P := va_up P (e + 1) oo) (by omega) hm4 (by omega) (hP.more (w := w) (fun i hi => (up_ne (by omega)).trans (hp1 i hi)) up_eq (by omega) ho) hf1 (fun h7 p7 t7 o7 e7 hm7 c7 => ?_)
              have e7 : sOf o7 = goN F m j (va_up P (e + 1) oo (e + 1)) (if e + 1 = e + 1 then stepC F (C e) oo else C (e + 1)) (e + 1) (va_up o1.2.2.1 e w, o1.2.2.2.1, o1.2.2.2.2.1) := e7
              rw [up_eq, if_pos rfl] at e7
              have e8 : sOf o7 = g w oo (sOf o1) := by rw [hg]; exact e7
              refine a_iinc_5 (pc := 231) (v := nI (w + 1)) dX12_triesRound_231 (nI_add _ _) (by decide) (by first | rfl | trivial) ?_
              refine a_goto (pc := 234) (tgt := 192) dX12_triesRound_234 (by decide) ?_
              exact ih (w + 1) _ _ _ o7 (by omega) (by omega) (by rw [wfold, ho, ← hs1]; exact e8) (by have := gle w oo (sOf o1) hf1; rw [← e8] at this; exact this) hm7 (c7.trans hc1)
    have lp : ∀ (n : Nat) (i : Nat), e - i < n → (i ≤ e) → AW G yX12_triesRound cX12_triesRound 6 none (rmx (d + 1) 0 0) (ZQ G 0 0 (h.length + 0) Q) 0 0 147 [some (.ref (gB G + 80)), some (.int (nI (r))), some (.int (nI (e))), some (.int (nI (m))), some (.int (nI (P i))), some (.int (nI (i)))] [] h := by
      intro n
      induction n with
      | zero => intro i hn; exact absurd hn (Nat.not_lt_zero _)
      | succ n ih =>
        intro i hn hi
        refine a_iload_5 (pc := 147) dX12_triesRound_147 ?_
        refine a_iloadn_2 (pc := 149) dX12_triesRound_149 ?_
        refine n_icmp_ge (tgt := 189) dX12_triesRound_150 (by decide) (by omega) (by omega) (fun c_150 => ?_) (fun c_150 => ?_)
        · have ie : i = e := by omega
          subst ie
          refine a_iconst (pc := 189) (v := nI 0) dX12_triesRound_189 (by decide) ?_
          refine a_istore_5 (pc := 190) dX12_triesRound_190 (by decide) (by first | rfl | trivial) ?_
          exact lb 6 0 _ _ _ _ (by omega) (by omega) rfl hf hm rfl
        · obtain ⟨q1, q2, q3⟩ := hP.2.2 i (by omega)
          have p35 := hP.lt hr i (by omega)
          obtain ⟨wi, hwi⟩ : ∃ wi, wi = o.2.2.1 i := ⟨_, rfl⟩
          rw [← hwi] at q1 q3
          refine a_aloadn_0 (pc := 153) dX12_triesRound_153 ?_
          refine mg_47 hm rfl dX12_triesRound_154 ?_
          refine a_iload_5 (pc := 157) dX12_triesRound_157 ?_
          refine ml_walked (x := wi) hm dX12_triesRound_159 (by omega) hwi.symm ?_
          refine a_iconst (pc := 160) (v := nI 4) dX12_triesRound_160 (by decide) ?_
          refine n_icmp_ne (tgt := 169) dX12_triesRound_161 (by decide) (by omega) (by decide) (fun c_161 => ?_) (fun c_161 => ?_)
          · have hbs : bsd (P i) wi = some (P (i + 1)) := by rw [bes5, if_neg (by omega)] at q1; exact q1
            refine a_iload_4 (pc := 169) dX12_triesRound_169 ?_
            refine a_aloadn_0 (pc := 171) dX12_triesRound_171 ?_
            refine mg_47 hm rfl dX12_triesRound_172 ?_
            refine a_iload_5 (pc := 175) dX12_triesRound_175 ?_
            refine ml_walked (x := wi) hm dX12_triesRound_177 (by omega) hwi.symm ?_
            refine cs_X12_193 (pc := 178) rfl dX12_triesRound_178 (Nat.le_of_ble_eq_true rfl) ?_
            refine m_beside (by omega) hz (by omega) (by omega) ?_
            refine a_topi (nI (P (i + 1))) (by rw [hbs]; rfl) ?_
            refine a_istore_4 (pc := 181) dX12_triesRound_181 (by decide) (by first | rfl | trivial) ?_
            refine a_iinc_5 (pc := 183) (v := nI (i + 1)) dX12_triesRound_183 (nI_add _ _) (by decide) (by first | rfl | trivial) ?_
            refine a_goto (pc := 186) (tgt := 147) dX12_triesRound_186 (by decide) ?_
            exact ih (i + 1) (by omega) (by omega)
          · have eP : P i = P (i + 1) := by rw [bes5, if_pos (by omega)] at q1; exact Option.some.inj q1
            refine a_iload_4 (pc := 164) dX12_triesRound_164 ?_
            refine a_goto (pc := 166) (tgt := 181) dX12_triesRound_166 (by decide) ?_
            refine a_topi (nI (P (i + 1))) (by rw [eP]) ?_
            refine a_istore_4 (pc := 181) dX12_triesRound_181 (by decide) (by first | rfl | trivial) ?_
            refine a_iinc_5 (pc := 183) (v := nI (i + 1)) dX12_triesRound_183 (nI_add _ _) (by decide) (by first | rfl | trivial) ?_
            refine a_goto (pc := 186) (tgt := 147) dX12_triesRound_186 (by decide) ?_
            exact ih (i + 1) (by omega) (by omega)
    refine AM.of [some (.ref (gB G + 80)), some (.int (nI (r))), some (.int (nI (e))), some (.int (nI (m))), none, none] pnX12 (Nat.le_of_ble_eq_true rfl) (by simp [lsub, lvI, Value.category]) ?_
    refine a_iloadn_2 (pc := 0) dX12_triesRound_0 ?_
    refine a_iloadn_3 (pc := 1) dX12_triesRound_1 ?_
    refine n_icmp_ne (tgt := 141) dX12_triesRound_2 (by decide) (by omega) (by omega) (fun c_2 => ?_) (fun c_2 => by omega)
    refine a_iloadn_1 (pc := 141) dX12_triesRound_141 ?_
    refine a_topi (nI (P 0)) (by rw [hP.1]) ?_
    refine a_istore_4 (pc := 142) dX12_triesRound_142 (by decide) (by first | rfl | trivial) ?_
    refine a_iconst (pc := 144) (v := nI 0) dX12_triesRound_144 (by decide) ?_
    refine a_istore_5 (pc := 145) dX12_triesRound_145 (by decide) (by first | rfl | trivial) ?_
    exact lp (e + 1) 0 (by omega) (by omega)
