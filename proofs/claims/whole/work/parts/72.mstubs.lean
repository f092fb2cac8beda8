/-! STUBS: what both answer -/
abbrev St3 : Type := Nat × Nat × Int32
def chN (F : Lf) (t : Nat) (u : Cv) : Nat := ctn (fun r => cK (hrs F t u) r && cC (hrs F t u) r) 36
def dkN (F : Lf) (t : Nat) (u : Cv) : Nat := ctn (cK (hrs F t u)) 36
def stS (F : Lf) (t : Nat) (u : Cv) (rm : Int32) (s : St3) : St3 := if chN F t u < s.1 ∨ (chN F t u = s.1 ∧ dkN F t u < s.2.1) then (chN F t u, dkN F t u, rm) else s
abbrev add12 (v : Cv) (r : Nat) : Cv := csW v r (min 99 (cW v r + 12))
def sf1 (F : Lf) (t : Nat) (v : Cv) (s0 : St3) : Nat → St3
  | 0 => s0
  | a + 1 => if cK v a = true then sf1 F t v s0 a else stS F t (add12 v a) (nI a) (sf1 F t v s0 a)
def sf2 (F : Lf) (t : Nat) (v : Cv) (a : Nat) (s0 : St3) : Nat → St3
  | 0 => s0
  | x + 1 => if x ≤ a ∨ cK v a = true ∨ cK v x = true then sf2 F t v a s0 x else stS F t (add12 (add12 v a) x) (nI (36 * a + x)) (sf2 F t v a s0 x)
def sf3 (F : Lf) (t : Nat) (v : Cv) (s0 : St3) : Nat → St3
  | 0 => s0
  | a + 1 => sf2 F t v a (sf3 F t v s0 a) 36
def stA (F : Lf) (t : Nat) (v : Cv) (k : Nat) (s0 : St3) : St3 := match k with
  | 0 => stS F t v (-9) s0
  | 1 => sf1 F t v s0 36
  | _ => sf3 F t v s0 36
theorem chN_le (F : Lf) (t : Nat) (u : Cv) : chN F t u ≤ dkN F t u := by
  unfold chN dkN
  have : ∀ n, ctn (fun r => cK (hrs F t u) r && cC (hrs F t u) r) n ≤ ctn (cK (hrs F t u)) n := by
    intro n
    induction n with
    | zero => exact Nat.le_refl _
    | succ n ih =>
      rw [ctn, ctn]
      cases cK (hrs F t u) n <;> cases cC (hrs F t u) n <;> simp <;> omega
  exact this 36
theorem dkN_le (F : Lf) (t : Nat) (u : Cv) : dkN F t u ≤ 36 := ctn_le _ _
theorem sf2_a (F : Lf) (t : Nat) (v : Cv) (a : Nat) (s0 : St3) : ∀ x, x ≤ a + 1 → sf2 F t v a s0 x = s0
  | 0, _ => rfl
  | x + 1, h => by rw [sf2, if_pos (Or.inl (by omega)), sf2_a F t v a s0 x (by omega)]
/-- one start against another -/
def RS3 (s t : St3) : Prop := (s = t ∧ s.1 ≤ 36 ∧ s.2.1 ≤ 36) ∨ (s.1 = 37 ∧ s.2.1 = 37 ∧ t = (1000000, 1000000, -2))
theorem stS_R {F : Lf} {t : Nat} {u : Cv} {rm : Int32} {s z : St3} (h : RS3 s z) : RS3 (stS F t u rm s) (stS F t u rm z) := by
  have h1 := chN_le F t u
  have h2 := dkN_le F t u
  unfold stS
  rcases h with ⟨rfl, h3⟩ | ⟨e1, e2, rfl⟩
  · split
    · exact Or.inl ⟨rfl, by show chN F t u ≤ 36; omega, h2⟩
    · exact Or.inl ⟨rfl, h3⟩
  · rw [if_pos (Or.inl (by omega)), if_pos (Or.inl (by show _ < 1000000; omega))]
    exact Or.inl ⟨rfl, by show chN F t u ≤ 36; omega, h2⟩
theorem sf1_R {F : Lf} {t : Nat} {v : Cv} {s z : St3} (h : RS3 s z) : ∀ n, RS3 (sf1 F t v s n) (sf1 F t v z n)
  | 0 => h
  | n + 1 => by
    rw [sf1, sf1]
    split
    · exact sf1_R h n
    · exact stS_R (sf1_R h n)
theorem sf2_R {F : Lf} {t : Nat} {v : Cv} {a : Nat} {s z : St3} (h : RS3 s z) : ∀ n, RS3 (sf2 F t v a s n) (sf2 F t v a z n)
  | 0 => h
  | n + 1 => by
    rw [sf2, sf2]
    split
    · exact sf2_R h n
    · exact stS_R (sf2_R h n)
theorem sf3_R {F : Lf} {t : Nat} {v : Cv} {s z : St3} (h : RS3 s z) : ∀ n, RS3 (sf3 F t v s n) (sf3 F t v z n)
  | 0 => h
  | n + 1 => sf2_R (sf3_R h n) 36
theorem stA_R {F : Lf} {t : Nat} {v : Cv} {s z : St3} (h : RS3 s z) (k : Nat) : RS3 (stA F t v k s) (stA F t v k z) := by
  unfold stA
  split
  · exact stS_R h
  · exact sf1_R h 36
  · exact sf3_R h 36
abbrev St0 : St3 := (1000000, 1000000, -2)
def stAns (s : St3) (w : Nat) : Int32 := if s.1 = 1000000 then -2 else if w = 0 then nI s.1 else if w = 1 then nI s.2.1 else s.2.2
def spStubs (F : Lf) (v : Cv) (k t w : Int32) : Int32 := if inR 0 (nI 2) k = true then (if inR 0 (nI 12) t = true then (if inR 0 (nI 2) w = true then stAns (stA F (iN t) v (iN k) St0) (iN w) else -1) else -1) else -1
theorem sp_ok {F : Lf} {v : Cv} {k t w : Nat} (hk : k ≤ 2) (ht : t ≤ 12) (hw : w ≤ 2) : spStubs F v (nI k) (nI t) (nI w) = stAns (stA F t v k St0) w := by
  unfold spStubs
  rw [inR_nI (by decide) (by omega), inR_nI (by decide) (by omega), inR_nI (by decide) (by omega), if_pos (decide_eq_true (by omega)), if_pos (decide_eq_true (by omega)), if_pos (decide_eq_true (by omega)), iN_nI (by omega), iN_nI (by omega), iN_nI (by omega)]
set_option maxRecDepth 100000 in
set_option maxHeartbeats 4000000 in
theorem m_stubs {G : Cx} {d : Nat} {h h0 : List va_E} {b : MB} {p : MP} {t : MT} {o : MO} {Q : Option Value → List va_E → Prop} (hd : 72 ≤ d) (hz : gz G = false) (hm : MS G h0 h (b, p, t, o)) {v : Cv} {F : Lf} (hb : BV (b, p, t, o) v) (okv : okC v) (hL : LM b F) {k tt w : Int32} (hk : ∀ y h1 p1 t1, y = spStubs F v k tt w → MS G h0 h1 (b, p1, t1, o) → Q (some (.int y)) h1) : AM G yX12_stubs cX12_stubs 9 (some .int) d 0 0 [.ref (gB G + 80), .int (k), .int (tt), .int (w)] h Q := by
  obtain ⟨d, rfl, he⟩ := dpos hd
  refine AM.of [some (.ref (gB G + 80)), some (.int (k)), some (.int (tt)), some (.int (w)), none, none, none, none, none] pnX12 (Nat.le_of_ble_eq_true rfl) (by simp [lsub, lvI, Value.category]) ?_
  refine a_iloadn_1 (pc := 0) dX12_stubs_0 ?_
  refine a_i2l (pc := 1) dX12_stubs_1 ?_
  refine a_lconst (pc := 2) (v := 0) dX12_stubs_2 (by decide) ?_
  refine a_ldc2 (pc := 3) dX12_stubs_3 w_1303 ?_
  refine cs_X12_96 (pc := 6) rfl dX12_stubs_6 (Nat.le_of_ble_eq_true rfl) ?_
  refine m_within (by omega) hz ?_
  refine a_topi (bI (inR 0 (nI 2) k)) (congrArg bI (inL_R 0 2 (by decide) (by decide) k)) ?_
  refine b_if_eq (pc := 9) (tgt := 36) dX12_stubs_9 (by decide) (fun c_9 => ?_) (fun c_9 => ?_)
  · refine a_iconst (pc := 36) (v := (-1)) dX12_stubs_36 (by decide) ?_
    exact a_iret (pc := 37) dX12_stubs_37 rfl (zf hz) (hk _ _ _ _ (by simp [spStubs, c_9]) hm)
  · obtain ⟨n_k, h_k, rfl⟩ := inR_of (by decide) c_9
    have i_k : iN (nI n_k) = n_k := iN_nI (by omega)
    refine a_iloadn_2 (pc := 12) dX12_stubs_12 ?_
    refine a_i2l (pc := 13) dX12_stubs_13 ?_
    refine a_lconst (pc := 14) (v := 0) dX12_stubs_14 (by decide) ?_
    refine a_ldc2 (pc := 15) dX12_stubs_15 w_1304 ?_
    refine cs_X12_96 (pc := 18) rfl dX12_stubs_18 (Nat.le_of_ble_eq_true rfl) ?_
    refine m_within (by omega) hz ?_
    refine a_topi (bI (inR 0 (nI 12) tt)) (congrArg bI (inL_R 0 12 (by decide) (by decide) tt)) ?_
    refine b_if_eq (pc := 21) (tgt := 36) dX12_stubs_21 (by decide) (fun c_21 => ?_) (fun c_21 => ?_)
    · refine a_iconst (pc := 36) (v := (-1)) dX12_stubs_36 (by decide) ?_
      exact a_iret (pc := 37) dX12_stubs_37 rfl (zf hz) (hk _ _ _ _ (by simp [spStubs, c_9, i_k, c_21]) hm)
    · obtain ⟨n_tt, h_tt, rfl⟩ := inR_of (by decide) c_21
      have i_tt : iN (nI n_tt) = n_tt := iN_nI (by omega)
      refine a_iloadn_3 (pc := 24) dX12_stubs_24 ?_
      refine a_i2l (pc := 25) dX12_stubs_25 ?_
      refine a_lconst (pc := 26) (v := 0) dX12_stubs_26 (by decide) ?_
      refine a_ldc2 (pc := 27) dX12_stubs_27 w_1303 ?_
      refine cs_X12_96 (pc := 30) rfl dX12_stubs_30 (Nat.le_of_ble_eq_true rfl) ?_
      refine m_within (by omega) hz ?_
      refine a_topi (bI (inR 0 (nI 2) w)) (congrArg bI (inL_R 0 2 (by decide) (by decide) w)) ?_
      refine b_if_ne (pc := 33) (tgt := 38) dX12_stubs_33 (by decide) (fun c_33 => ?_) (fun c_33 => ?_)
      · obtain ⟨n_w, h_w, rfl⟩ := inR_of (by decide) c_33
        have i_w : iN (nI n_w) = n_w := iN_nI (by omega)
        rcases (show n_k = 0 ∨ n_k = 1 ∨ n_k = 2 by omega) with rfl | rfl | rfl
        · refine a_bipush (pc := 38) (v := (-2)) dX12_stubs_38 (by decide) ?_
          refine a_istore_4 (pc := 40) dX12_stubs_40 (by decide) (by first | rfl | trivial) ?_
          refine a_ldcw (pc := 42) dX12_stubs_42 w_1305 ?_
          refine a_topi (nI 1000000) (by decide) ?_
          refine a_istore_5 (pc := 45) dX12_stubs_45 (by decide) (by first | rfl | trivial) ?_
          refine a_ldcw (pc := 47) dX12_stubs_47 w_1305 ?_
          refine a_topi (nI 1000000) (by decide) ?_
          refine a_istore_6 (pc := 50) dX12_stubs_50 (by decide) (by first | rfl | trivial) ?_
          refine a_iloadn_1 (pc := 52) dX12_stubs_52 ?_
          refine a_iconst (pc := 53) (v := nI 2) dX12_stubs_53 (by decide) ?_
          refine n_icmp_ne (tgt := 61) dX12_stubs_54 (by decide) (by decide) (by decide) (fun c_54 => ?_) (fun c_54 => by omega)
          refine a_bipush (pc := 61) (v := nI 36) dX12_stubs_61 (by decide) ?_
          refine a_istore_7 (pc := 63) dX12_stubs_63 (by decide) (by first | rfl | trivial) ?_
          refine a_iload_7 (pc := 65) dX12_stubs_65 ?_
          refine a_iloadn_1 (pc := 67) dX12_stubs_67 ?_
          refine a_iconst (pc := 68) (v := nI 2) dX12_stubs_68 (by decide) ?_
          refine n_icmp_ne (tgt := 77) dX12_stubs_69 (by decide) (by decide) (by decide) (fun c_69 => ?_) (fun c_69 => by omega)
          refine a_bipush (pc := 77) (v := nI 37) dX12_stubs_77 (by decide) ?_
          refine n_icmp_ge (tgt := 309) dX12_stubs_79 (by decide) (by decide) (by decide) (fun c_79 => by omega) (fun c_79 => ?_)
          refine a_iloadn_1 (pc := 82) dX12_stubs_82 ?_
          refine n_if_ne (tgt := 91) dX12_stubs_83 (by decide) (by decide) (fun c_83 => by omega) (fun c_83 => ?_)
          refine a_bipush (pc := 86) (v := nI 36) dX12_stubs_86 (by decide) ?_
          refine a_goto (pc := 88) (tgt := 104) dX12_stubs_88 (by decide) ?_
          refine a_istore_8 (pc := 104) dX12_stubs_104 (by decide) (by first | rfl | trivial) ?_
          refine a_iload_8 (pc := 106) dX12_stubs_106 ?_
          refine a_iloadn_1 (pc := 108) dX12_stubs_108 ?_
          refine n_if_ne (tgt := 117) dX12_stubs_109 (by decide) (by decide) (fun c_109 => by omega) (fun c_109 => ?_)
          refine a_bipush (pc := 112) (v := nI 37) dX12_stubs_112 (by decide) ?_
          refine a_goto (pc := 114) (tgt := 119) dX12_stubs_114 (by decide) ?_
          refine n_icmp_ge (tgt := 303) dX12_stubs_119 (by decide) (by decide) (by decide) (fun c_119 => by omega) (fun c_119 => ?_)
          refine a_iload_7 (pc := 122) dX12_stubs_122 ?_
          refine a_bipush (pc := 124) (v := nI 36) dX12_stubs_124 (by decide) ?_
          refine n_icmp_eq (tgt := 142) dX12_stubs_126 (by decide) (by decide) (by decide) (fun c_126 => ?_) (fun c_126 => by omega)
          refine a_iload_8 (pc := 142) dX12_stubs_142 ?_
          refine a_bipush (pc := 144) (v := nI 36) dX12_stubs_144 (by decide) ?_
          refine n_icmp_eq (tgt := 162) dX12_stubs_146 (by decide) (by decide) (by decide) (fun c_146 => ?_) (fun c_146 => by omega)
          refine a_aloadn_0 (pc := 162) dX12_stubs_162 ?_
          refine cv_X12_220 (pc := 163) rfl dX12_stubs_163 hm.2.2.1 (Nat.le_of_ble_eq_true rfl) ?_
          refine m_begins (by omega) hz hm hb (fun h1 t1 hm1 hv1 => ?_)
          refine a_iload_7 (pc := 166) dX12_stubs_166 ?_
          refine a_bipush (pc := 168) (v := nI 36) dX12_stubs_168 (by decide) ?_
          refine n_icmp_ge (tgt := 195) dX12_stubs_170 (by decide) (by decide) (by decide) (fun c_170 => ?_) (fun c_170 => by omega)
          refine a_iload_8 (pc := 195) dX12_stubs_195 ?_
          refine a_bipush (pc := 197) (v := nI 36) dX12_stubs_197 (by decide) ?_
          refine n_icmp_ge (tgt := 224) dX12_stubs_199 (by decide) (by decide) (by decide) (fun c_199 => ?_) (fun c_199 => by omega)
          refine a_aloadn_0 (pc := 224) dX12_stubs_224 ?_
          refine a_iloadn_2 (pc := 225) dX12_stubs_225 ?_
          refine cv_X12_228 (pc := 226) rfl dX12_stubs_226 hm1.2.2.1 (Nat.le_of_ble_eq_true rfl) ?_
          refine m_goesHours (by omega) hz hm1 hv1 okv hL (by omega) (fun h2 p2 t2 hm2 hv2 => ?_)
          have cl1 := chN_le F n_tt v
          have cl2 := dkN_le F n_tt v
          refine a_aloadn_0 (pc := 229) dX12_stubs_229 ?_
          refine cv_X12_235 (pc := 230) rfl dX12_stubs_230 hm2.2.2.1 (Nat.le_of_ble_eq_true rfl) ?_
          refine m_darkChildren (by omega) hz hm2 hv2 ?_
          refine a_topi (nI (chN F n_tt v)) rfl ?_
          refine a_iload_5 (pc := 233) dX12_stubs_233 ?_
          refine n_icmp_lt (tgt := 256) dX12_stubs_235 (by decide) (by omega) (by decide) (fun c_235 => ?_) (fun c_235 => ?_)
          · have hM : stS F n_tt v (-9) (1000000, 1000000, (-2)) = (chN F n_tt v, dkN F n_tt v, (-9)) := if_pos (Or.inl c_235)
            refine a_aloadn_0 (pc := 256) dX12_stubs_256 ?_
            refine cv_X12_235 (pc := 257) rfl dX12_stubs_257 hm2.2.2.1 (Nat.le_of_ble_eq_true rfl) ?_
            refine m_darkChildren (by omega) hz hm2 hv2 ?_
            refine a_topi (nI (chN F n_tt v)) rfl ?_
            refine a_istore_5 (pc := 260) dX12_stubs_260 (by decide) (by first | rfl | trivial) ?_
            refine a_aloadn_0 (pc := 262) dX12_stubs_262 ?_
            refine cv_X12_232 (pc := 263) rfl dX12_stubs_263 hm2.2.2.1 (Nat.le_of_ble_eq_true rfl) ?_
            refine m_darkMany (by omega) hz hm2 hv2 ?_
            refine a_topi (nI (dkN F n_tt v)) rfl ?_
            refine a_istore_6 (pc := 266) dX12_stubs_266 (by decide) (by first | rfl | trivial) ?_
            refine a_iloadn_1 (pc := 268) dX12_stubs_268 ?_
            refine n_if_ne (tgt := 277) dX12_stubs_269 (by decide) (by decide) (fun c_269 => by omega) (fun c_269 => ?_)
            refine a_bipush (pc := 272) (v := (-9)) dX12_stubs_272 (by decide) ?_
            refine a_goto (pc := 274) (tgt := 295) dX12_stubs_274 (by decide) ?_
            refine a_istore_4 (pc := 295) dX12_stubs_295 (by decide) (by first | rfl | trivial) ?_
            refine a_iinc_8 (pc := 297) (v := nI (37)) dX12_stubs_297 (nI_add _ _) (by decide) (by first | rfl | trivial) ?_
            refine a_goto (pc := 300) (tgt := 106) dX12_stubs_300 (by decide) ?_
            refine a_iload_8 (pc := 106) dX12_stubs_106 ?_
            refine a_iloadn_1 (pc := 108) dX12_stubs_108 ?_
            refine n_if_ne (tgt := 117) dX12_stubs_109 (by decide) (by decide) (fun c_109 => by omega) (fun c_109 => ?_)
            refine a_bipush (pc := 112) (v := nI 37) dX12_stubs_112 (by decide) ?_
            refine a_goto (pc := 114) (tgt := 119) dX12_stubs_114 (by decide) ?_
            refine n_icmp_ge (tgt := 303) dX12_stubs_119 (by decide) (by decide) (by decide) (fun c_119 => ?_) (fun c_119 => by omega)
            refine a_iinc_7 (pc := 303) (v := nI (37)) dX12_stubs_303 (nI_add _ _) (by decide) (by first | rfl | trivial) ?_
            refine a_goto (pc := 306) (tgt := 65) dX12_stubs_306 (by decide) ?_
            refine a_iload_7 (pc := 65) dX12_stubs_65 ?_
            refine a_iloadn_1 (pc := 67) dX12_stubs_67 ?_
            refine a_iconst (pc := 68) (v := nI 2) dX12_stubs_68 (by decide) ?_
            refine n_icmp_ne (tgt := 77) dX12_stubs_69 (by decide) (by decide) (by decide) (fun c_69 => ?_) (fun c_69 => by omega)
            refine a_bipush (pc := 77) (v := nI 37) dX12_stubs_77 (by decide) ?_
            refine n_icmp_ge (tgt := 309) dX12_stubs_79 (by decide) (by decide) (by decide) (fun c_79 => ?_) (fun c_79 => by omega)
            refine a_iload_5 (pc := 309) dX12_stubs_309 ?_
            refine a_ldcw (pc := 311) dX12_stubs_311 w_1305 ?_
            refine a_topi (nI 1000000) (by decide) ?_
            refine n_icmp_ne (tgt := 322) dX12_stubs_314 (by decide) (by omega) (by decide) (fun c_314 => ?_) (fun c_314 => ?_)
            · refine a_iloadn_3 (pc := 322) dX12_stubs_322 ?_
              refine n_if_ne (tgt := 331) dX12_stubs_323 (by decide) (by omega) (fun c_323 => ?_) (fun c_323 => ?_)
              · refine a_iloadn_3 (pc := 331) dX12_stubs_331 ?_
                refine a_iconst (pc := 332) (v := nI 1) dX12_stubs_332 (by decide) ?_
                refine n_icmp_ne (tgt := 341) dX12_stubs_333 (by decide) (by omega) (by decide) (fun c_333 => ?_) (fun c_333 => ?_)
                · refine a_iload_4 (pc := 341) dX12_stubs_341 ?_
                  exact a_iret (pc := 343) dX12_stubs_343 rfl (zf hz) (hk _ _ _ _ (by first | (exfalso; omega) | (rw [sp_ok (by omega) (by omega) (by omega), show stA F n_tt v 0 St0 = _ from hM]; unfold stAns; first | rw [if_pos (by show _ = 1000000; omega)] | (rw [if_neg (by show ¬ _ = 1000000; omega)]; first | rw [if_pos (by omega)] | (rw [if_neg (by omega)]; first | rw [if_pos (by omega)] | rw [if_neg (by omega)])))) hm2)
                · refine a_iload_6 (pc := 336) dX12_stubs_336 ?_
                  refine a_goto (pc := 338) (tgt := 343) dX12_stubs_338 (by decide) ?_
                  exact a_iret (pc := 343) dX12_stubs_343 rfl (zf hz) (hk _ _ _ _ (by first | (exfalso; omega) | (rw [sp_ok (by omega) (by omega) (by omega), show stA F n_tt v 0 St0 = _ from hM]; unfold stAns; first | rw [if_pos (by show _ = 1000000; omega)] | (rw [if_neg (by show ¬ _ = 1000000; omega)]; first | rw [if_pos (by omega)] | (rw [if_neg (by omega)]; first | rw [if_pos (by omega)] | rw [if_neg (by omega)])))) hm2)
              · refine a_iload_5 (pc := 326) dX12_stubs_326 ?_
                refine a_goto (pc := 328) (tgt := 343) dX12_stubs_328 (by decide) ?_
                exact a_iret (pc := 343) dX12_stubs_343 rfl (zf hz) (hk _ _ _ _ (by first | (exfalso; omega) | (rw [sp_ok (by omega) (by omega) (by omega), show stA F n_tt v 0 St0 = _ from hM]; unfold stAns; first | rw [if_pos (by show _ = 1000000; omega)] | (rw [if_neg (by show ¬ _ = 1000000; omega)]; first | rw [if_pos (by omega)] | (rw [if_neg (by omega)]; first | rw [if_pos (by omega)] | rw [if_neg (by omega)])))) hm2)
            · refine a_bipush (pc := 317) (v := (-2)) dX12_stubs_317 (by decide) ?_
              refine a_goto (pc := 319) (tgt := 343) dX12_stubs_319 (by decide) ?_
              exact a_iret (pc := 343) dX12_stubs_343 rfl (zf hz) (hk _ _ _ _ (by first | (exfalso; omega) | (rw [sp_ok (by omega) (by omega) (by omega), show stA F n_tt v 0 St0 = _ from hM]; unfold stAns; first | rw [if_pos (by show _ = 1000000; omega)] | (rw [if_neg (by show ¬ _ = 1000000; omega)]; first | rw [if_pos (by omega)] | (rw [if_neg (by omega)]; first | rw [if_pos (by omega)] | rw [if_neg (by omega)])))) hm2)
          · refine a_aloadn_0 (pc := 238) dX12_stubs_238 ?_
            refine cv_X12_235 (pc := 239) rfl dX12_stubs_239 hm2.2.2.1 (Nat.le_of_ble_eq_true rfl) ?_
            refine m_darkChildren (by omega) hz hm2 hv2 ?_
            refine a_topi (nI (chN F n_tt v)) rfl ?_
            refine a_iload_5 (pc := 242) dX12_stubs_242 ?_
            refine n_icmp_ne (tgt := 297) dX12_stubs_244 (by decide) (by omega) (by decide) (fun c_244 => ?_) (fun c_244 => ?_)
            · have hM : stS F n_tt v (-9) (1000000, 1000000, (-2)) = (1000000, 1000000, (-2)) := if_neg (by show ¬ (_ < 1000000 ∨ (_ = 1000000 ∧ _)); omega)
              refine a_iinc_8 (pc := 297) (v := nI (37)) dX12_stubs_297 (nI_add _ _) (by decide) (by first | rfl | trivial) ?_
              refine a_goto (pc := 300) (tgt := 106) dX12_stubs_300 (by decide) ?_
              refine a_iload_8 (pc := 106) dX12_stubs_106 ?_
              refine a_iloadn_1 (pc := 108) dX12_stubs_108 ?_
              refine n_if_ne (tgt := 117) dX12_stubs_109 (by decide) (by decide) (fun c_109 => by omega) (fun c_109 => ?_)
              refine a_bipush (pc := 112) (v := nI 37) dX12_stubs_112 (by decide) ?_
              refine a_goto (pc := 114) (tgt := 119) dX12_stubs_114 (by decide) ?_
              refine n_icmp_ge (tgt := 303) dX12_stubs_119 (by decide) (by decide) (by decide) (fun c_119 => ?_) (fun c_119 => by omega)
              refine a_iinc_7 (pc := 303) (v := nI (37)) dX12_stubs_303 (nI_add _ _) (by decide) (by first | rfl | trivial) ?_
              refine a_goto (pc := 306) (tgt := 65) dX12_stubs_306 (by decide) ?_
              refine a_iload_7 (pc := 65) dX12_stubs_65 ?_
              refine a_iloadn_1 (pc := 67) dX12_stubs_67 ?_
              refine a_iconst (pc := 68) (v := nI 2) dX12_stubs_68 (by decide) ?_
              refine n_icmp_ne (tgt := 77) dX12_stubs_69 (by decide) (by decide) (by decide) (fun c_69 => ?_) (fun c_69 => by omega)
              refine a_bipush (pc := 77) (v := nI 37) dX12_stubs_77 (by decide) ?_
              refine n_icmp_ge (tgt := 309) dX12_stubs_79 (by decide) (by decide) (by decide) (fun c_79 => ?_) (fun c_79 => by omega)
              refine a_iload_5 (pc := 309) dX12_stubs_309 ?_
              refine a_ldcw (pc := 311) dX12_stubs_311 w_1305 ?_
              refine a_topi (nI 1000000) (by decide) ?_
              refine n_icmp_ne (tgt := 322) dX12_stubs_314 (by decide) (by decide) (by decide) (fun c_314 => by omega) (fun c_314 => ?_)
              refine a_bipush (pc := 317) (v := (-2)) dX12_stubs_317 (by decide) ?_
              refine a_goto (pc := 319) (tgt := 343) dX12_stubs_319 (by decide) ?_
              exact a_iret (pc := 343) dX12_stubs_343 rfl (zf hz) (hk _ _ _ _ (by first | (exfalso; omega) | (rw [sp_ok (by omega) (by omega) (by omega), show stA F n_tt v 0 St0 = _ from hM]; unfold stAns; first | rw [if_pos (by show _ = 1000000; omega)] | (rw [if_neg (by show ¬ _ = 1000000; omega)]; first | rw [if_pos (by omega)] | (rw [if_neg (by omega)]; first | rw [if_pos (by omega)] | rw [if_neg (by omega)])))) hm2)
            · refine a_aloadn_0 (pc := 247) dX12_stubs_247 ?_
              refine cv_X12_232 (pc := 248) rfl dX12_stubs_248 hm2.2.2.1 (Nat.le_of_ble_eq_true rfl) ?_
              refine m_darkMany (by omega) hz hm2 hv2 ?_
              refine a_topi (nI (dkN F n_tt v)) rfl ?_
              refine a_iload_6 (pc := 251) dX12_stubs_251 ?_
              refine n_icmp_ge (tgt := 297) dX12_stubs_253 (by decide) (by omega) (by decide) (fun c_253 => ?_) (fun c_253 => ?_)
              · have hM : stS F n_tt v (-9) (1000000, 1000000, (-2)) = (1000000, 1000000, (-2)) := if_neg (by show ¬ (_ < 1000000 ∨ (_ = 1000000 ∧ _ < 1000000)); omega)
                refine a_iinc_8 (pc := 297) (v := nI (37)) dX12_stubs_297 (nI_add _ _) (by decide) (by first | rfl | trivial) ?_
                refine a_goto (pc := 300) (tgt := 106) dX12_stubs_300 (by decide) ?_
                refine a_iload_8 (pc := 106) dX12_stubs_106 ?_
                refine a_iloadn_1 (pc := 108) dX12_stubs_108 ?_
                refine n_if_ne (tgt := 117) dX12_stubs_109 (by decide) (by decide) (fun c_109 => by omega) (fun c_109 => ?_)
                refine a_bipush (pc := 112) (v := nI 37) dX12_stubs_112 (by decide) ?_
                refine a_goto (pc := 114) (tgt := 119) dX12_stubs_114 (by decide) ?_
                refine n_icmp_ge (tgt := 303) dX12_stubs_119 (by decide) (by decide) (by decide) (fun c_119 => ?_) (fun c_119 => by omega)
                refine a_iinc_7 (pc := 303) (v := nI (37)) dX12_stubs_303 (nI_add _ _) (by decide) (by first | rfl | trivial) ?_
                refine a_goto (pc := 306) (tgt := 65) dX12_stubs_306 (by decide) ?_
                refine a_iload_7 (pc := 65) dX12_stubs_65 ?_
                refine a_iloadn_1 (pc := 67) dX12_stubs_67 ?_
                refine a_iconst (pc := 68) (v := nI 2) dX12_stubs_68 (by decide) ?_
                refine n_icmp_ne (tgt := 77) dX12_stubs_69 (by decide) (by decide) (by decide) (fun c_69 => ?_) (fun c_69 => by omega)
                refine a_bipush (pc := 77) (v := nI 37) dX12_stubs_77 (by decide) ?_
                refine n_icmp_ge (tgt := 309) dX12_stubs_79 (by decide) (by decide) (by decide) (fun c_79 => ?_) (fun c_79 => by omega)
                refine a_iload_5 (pc := 309) dX12_stubs_309 ?_
                refine a_ldcw (pc := 311) dX12_stubs_311 w_1305 ?_
                refine a_topi (nI 1000000) (by decide) ?_
                refine n_icmp_ne (tgt := 322) dX12_stubs_314 (by decide) (by decide) (by decide) (fun c_314 => by omega) (fun c_314 => ?_)
                refine a_bipush (pc := 317) (v := (-2)) dX12_stubs_317 (by decide) ?_
                refine a_goto (pc := 319) (tgt := 343) dX12_stubs_319 (by decide) ?_
                exact a_iret (pc := 343) dX12_stubs_343 rfl (zf hz) (hk _ _ _ _ (by first | (exfalso; omega) | (rw [sp_ok (by omega) (by omega) (by omega), show stA F n_tt v 0 St0 = _ from hM]; unfold stAns; first | rw [if_pos (by show _ = 1000000; omega)] | (rw [if_neg (by show ¬ _ = 1000000; omega)]; first | rw [if_pos (by omega)] | (rw [if_neg (by omega)]; first | rw [if_pos (by omega)] | rw [if_neg (by omega)])))) hm2)
              · have hM : stS F n_tt v (-9) (1000000, 1000000, (-2)) = (chN F n_tt v, dkN F n_tt v, (-9)) := if_pos (Or.inr ⟨c_244, by show _ < 1000000; omega⟩)
                refine a_aloadn_0 (pc := 256) dX12_stubs_256 ?_
                refine cv_X12_235 (pc := 257) rfl dX12_stubs_257 hm2.2.2.1 (Nat.le_of_ble_eq_true rfl) ?_
                refine m_darkChildren (by omega) hz hm2 hv2 ?_
                refine a_topi (nI (chN F n_tt v)) rfl ?_
                refine a_istore_5 (pc := 260) dX12_stubs_260 (by decide) (by first | rfl | trivial) ?_
                refine a_aloadn_0 (pc := 262) dX12_stubs_262 ?_
                refine cv_X12_232 (pc := 263) rfl dX12_stubs_263 hm2.2.2.1 (Nat.le_of_ble_eq_true rfl) ?_
                refine m_darkMany (by omega) hz hm2 hv2 ?_
                refine a_topi (nI (dkN F n_tt v)) rfl ?_
                refine a_istore_6 (pc := 266) dX12_stubs_266 (by decide) (by first | rfl | trivial) ?_
                refine a_iloadn_1 (pc := 268) dX12_stubs_268 ?_
                refine n_if_ne (tgt := 277) dX12_stubs_269 (by decide) (by decide) (fun c_269 => by omega) (fun c_269 => ?_)
                refine a_bipush (pc := 272) (v := (-9)) dX12_stubs_272 (by decide) ?_
                refine a_goto (pc := 274) (tgt := 295) dX12_stubs_274 (by decide) ?_
                refine a_istore_4 (pc := 295) dX12_stubs_295 (by decide) (by first | rfl | trivial) ?_
                refine a_iinc_8 (pc := 297) (v := nI (37)) dX12_stubs_297 (nI_add _ _) (by decide) (by first | rfl | trivial) ?_
                refine a_goto (pc := 300) (tgt := 106) dX12_stubs_300 (by decide) ?_
                refine a_iload_8 (pc := 106) dX12_stubs_106 ?_
                refine a_iloadn_1 (pc := 108) dX12_stubs_108 ?_
                refine n_if_ne (tgt := 117) dX12_stubs_109 (by decide) (by decide) (fun c_109 => by omega) (fun c_109 => ?_)
                refine a_bipush (pc := 112) (v := nI 37) dX12_stubs_112 (by decide) ?_
                refine a_goto (pc := 114) (tgt := 119) dX12_stubs_114 (by decide) ?_
                refine n_icmp_ge (tgt := 303) dX12_stubs_119 (by decide) (by decide) (by decide) (fun c_119 => ?_) (fun c_119 => by omega)
                refine a_iinc_7 (pc := 303) (v := nI (37)) dX12_stubs_303 (nI_add _ _) (by decide) (by first | rfl | trivial) ?_
                refine a_goto (pc := 306) (tgt := 65) dX12_stubs_306 (by decide) ?_
                refine a_iload_7 (pc := 65) dX12_stubs_65 ?_
                refine a_iloadn_1 (pc := 67) dX12_stubs_67 ?_
                refine a_iconst (pc := 68) (v := nI 2) dX12_stubs_68 (by decide) ?_
                refine n_icmp_ne (tgt := 77) dX12_stubs_69 (by decide) (by decide) (by decide) (fun c_69 => ?_) (fun c_69 => by omega)
                refine a_bipush (pc := 77) (v := nI 37) dX12_stubs_77 (by decide) ?_
                refine n_icmp_ge (tgt := 309) dX12_stubs_79 (by decide) (by decide) (by decide) (fun c_79 => ?_) (fun c_79 => by omega)
                refine a_iload_5 (pc := 309) dX12_stubs_309 ?_
                refine a_ldcw (pc := 311) dX12_stubs_311 w_1305 ?_
                refine a_topi (nI 1000000) (by decide) ?_
                refine n_icmp_ne (tgt := 322) dX12_stubs_314 (by decide) (by omega) (by decide) (fun c_314 => ?_) (fun c_314 => ?_)
                · refine a_iloadn_3 (pc := 322) dX12_stubs_322 ?_
                  refine n_if_ne (tgt := 331) dX12_stubs_323 (by decide) (by omega) (fun c_323 => ?_) (fun c_323 => ?_)
                  · refine a_iloadn_3 (pc := 331) dX12_stubs_331 ?_
                    refine a_iconst (pc := 332) (v := nI 1) dX12_stubs_332 (by decide) ?_
                    refine n_icmp_ne (tgt := 341) dX12_stubs_333 (by decide) (by omega) (by decide) (fun c_333 => ?_) (fun c_333 => ?_)
                    · refine a_iload_4 (pc := 341) dX12_stubs_341 ?_
                      exact a_iret (pc := 343) dX12_stubs_343 rfl (zf hz) (hk _ _ _ _ (by first | (exfalso; omega) | (rw [sp_ok (by omega) (by omega) (by omega), show stA F n_tt v 0 St0 = _ from hM]; unfold stAns; first | rw [if_pos (by show _ = 1000000; omega)] | (rw [if_neg (by show ¬ _ = 1000000; omega)]; first | rw [if_pos (by omega)] | (rw [if_neg (by omega)]; first | rw [if_pos (by omega)] | rw [if_neg (by omega)])))) hm2)
                    · refine a_iload_6 (pc := 336) dX12_stubs_336 ?_
                      refine a_goto (pc := 338) (tgt := 343) dX12_stubs_338 (by decide) ?_
                      exact a_iret (pc := 343) dX12_stubs_343 rfl (zf hz) (hk _ _ _ _ (by first | (exfalso; omega) | (rw [sp_ok (by omega) (by omega) (by omega), show stA F n_tt v 0 St0 = _ from hM]; unfold stAns; first | rw [if_pos (by show _ = 1000000; omega)] | (rw [if_neg (by show ¬ _ = 1000000; omega)]; first | rw [if_pos (by omega)] | (rw [if_neg (by omega)]; first | rw [if_pos (by omega)] | rw [if_neg (by omega)])))) hm2)
                  · refine a_iload_5 (pc := 326) dX12_stubs_326 ?_
                    refine a_goto (pc := 328) (tgt := 343) dX12_stubs_328 (by decide) ?_
                    exact a_iret (pc := 343) dX12_stubs_343 rfl (zf hz) (hk _ _ _ _ (by first | (exfalso; omega) | (rw [sp_ok (by omega) (by omega) (by omega), show stA F n_tt v 0 St0 = _ from hM]; unfold stAns; first | rw [if_pos (by show _ = 1000000; omega)] | (rw [if_neg (by show ¬ _ = 1000000; omega)]; first | rw [if_pos (by omega)] | (rw [if_neg (by omega)]; first | rw [if_pos (by omega)] | rw [if_neg (by omega)])))) hm2)
                · refine a_bipush (pc := 317) (v := (-2)) dX12_stubs_317 (by decide) ?_
                  refine a_goto (pc := 319) (tgt := 343) dX12_stubs_319 (by decide) ?_
                  exact a_iret (pc := 343) dX12_stubs_343 rfl (zf hz) (hk _ _ _ _ (by first | (exfalso; omega) | (rw [sp_ok (by omega) (by omega) (by omega), show stA F n_tt v 0 St0 = _ from hM]; unfold stAns; first | rw [if_pos (by show _ = 1000000; omega)] | (rw [if_neg (by show ¬ _ = 1000000; omega)]; first | rw [if_pos (by omega)] | (rw [if_neg (by omega)]; first | rw [if_pos (by omega)] | rw [if_neg (by omega)])))) hm2)
        · refine a_bipush (pc := 38) (v := (-2)) dX12_stubs_38 (by decide) ?_
          refine a_istore_4 (pc := 40) dX12_stubs_40 (by decide) (by first | rfl | trivial) ?_
          refine a_ldcw (pc := 42) dX12_stubs_42 w_1305 ?_
          refine a_topi (nI 1000000) (by decide) ?_
          refine a_istore_5 (pc := 45) dX12_stubs_45 (by decide) (by first | rfl | trivial) ?_
          refine a_ldcw (pc := 47) dX12_stubs_47 w_1305 ?_
          refine a_topi (nI 1000000) (by decide) ?_
          refine a_istore_6 (pc := 50) dX12_stubs_50 (by decide) (by first | rfl | trivial) ?_
          refine a_iloadn_1 (pc := 52) dX12_stubs_52 ?_
          refine a_iconst (pc := 53) (v := nI 2) dX12_stubs_53 (by decide) ?_
          refine n_icmp_ne (tgt := 61) dX12_stubs_54 (by decide) (by decide) (by decide) (fun c_54 => ?_) (fun c_54 => by omega)
          refine a_bipush (pc := 61) (v := nI 36) dX12_stubs_61 (by decide) ?_
          refine a_istore_7 (pc := 63) dX12_stubs_63 (by decide) (by first | rfl | trivial) ?_
          refine a_iload_7 (pc := 65) dX12_stubs_65 ?_
          refine a_iloadn_1 (pc := 67) dX12_stubs_67 ?_
          refine a_iconst (pc := 68) (v := nI 2) dX12_stubs_68 (by decide) ?_
          refine n_icmp_ne (tgt := 77) dX12_stubs_69 (by decide) (by decide) (by decide) (fun c_69 => ?_) (fun c_69 => by omega)
          refine a_bipush (pc := 77) (v := nI 37) dX12_stubs_77 (by decide) ?_
          refine n_icmp_ge (tgt := 309) dX12_stubs_79 (by decide) (by decide) (by decide) (fun c_79 => by omega) (fun c_79 => ?_)
          refine a_iloadn_1 (pc := 82) dX12_stubs_82 ?_
          refine n_if_ne (tgt := 91) dX12_stubs_83 (by decide) (by decide) (fun c_83 => ?_) (fun c_83 => by omega)
          refine a_iloadn_1 (pc := 91) dX12_stubs_91 ?_
          refine a_iconst (pc := 92) (v := nI 2) dX12_stubs_92 (by decide) ?_
          refine n_icmp_ne (tgt := 103) dX12_stubs_93 (by decide) (by decide) (by decide) (fun c_93 => ?_) (fun c_93 => by omega)
          refine a_iconst (pc := 103) (v := nI 0) dX12_stubs_103 (by decide) ?_
          refine a_istore_8 (pc := 104) dX12_stubs_104 (by decide) (by first | rfl | trivial) ?_
          have lp : ∀ (n : Nat) (x : Nat) (h1 : List va_E) (p1 : MP) (t1 : MT) (ch dk : Nat) (rm : Int32), 37 - x < n → (x ≤ 36) → ((ch, dk, rm) = sf1 F n_tt v St0 x) → (ch ≤ 1000000 ∧ dk ≤ 1000000) → (MS G h0 h1 (b, p1, t1, o)) → AW G yX12_stubs cX12_stubs 9 (some .int) (rmx (d + 1) 0 0) (ZQ G 0 0 (h.length + 0) Q) 0 0 106 [some (.ref (gB G + 80)), some (.int (nI (1))), some (.int (nI (n_tt))), some (.int (nI (n_w))), some (.int (rm)), some (.int (nI (ch))), some (.int (nI (dk))), some (.int (nI (36))), some (.int (nI (x)))] [] h1 := by
            intro n
            induction n with
            | zero => intro x h1 p1 t1 ch dk rm hn; exact absurd hn (Nat.not_lt_zero _)
            | succ n ih =>
              intro x h1 p1 t1 ch dk rm hn hx hst hcd hm1
              refine a_iload_8 (pc := 106) dX12_stubs_106 ?_
              refine a_iloadn_1 (pc := 108) dX12_stubs_108 ?_
              refine n_if_ne (tgt := 117) dX12_stubs_109 (by decide) (by decide) (fun c_109 => ?_) (fun c_109 => by omega)
              refine a_bipush (pc := 117) (v := nI 36) dX12_stubs_117 (by decide) ?_
              refine n_icmp_ge (tgt := 303) dX12_stubs_119 (by decide) (by omega) (by decide) (fun c_119 => ?_) (fun c_119 => ?_)
              · refine a_iinc_7 (pc := 303) (v := nI (37)) dX12_stubs_303 (nI_add _ _) (by decide) (by first | rfl | trivial) ?_
                refine a_goto (pc := 306) (tgt := 65) dX12_stubs_306 (by decide) ?_
                refine a_iload_7 (pc := 65) dX12_stubs_65 ?_
                refine a_iloadn_1 (pc := 67) dX12_stubs_67 ?_
                refine a_iconst (pc := 68) (v := nI 2) dX12_stubs_68 (by decide) ?_
                refine n_icmp_ne (tgt := 77) dX12_stubs_69 (by decide) (by decide) (by decide) (fun c_69 => ?_) (fun c_69 => by omega)
                refine a_bipush (pc := 77) (v := nI 37) dX12_stubs_77 (by decide) ?_
                refine n_icmp_ge (tgt := 309) dX12_stubs_79 (by decide) (by decide) (by decide) (fun c_79 => ?_) (fun c_79 => by omega)
                refine a_iload_5 (pc := 309) dX12_stubs_309 ?_
                refine a_ldcw (pc := 311) dX12_stubs_311 w_1305 ?_
                refine a_topi (nI 1000000) (by decide) ?_
                refine n_icmp_ne (tgt := 322) dX12_stubs_314 (by decide) (by omega) (by decide) (fun c_314 => ?_) (fun c_314 => ?_)
                · refine a_iloadn_3 (pc := 322) dX12_stubs_322 ?_
                  refine n_if_ne (tgt := 331) dX12_stubs_323 (by decide) (by omega) (fun c_323 => ?_) (fun c_323 => ?_)
                  · refine a_iloadn_3 (pc := 331) dX12_stubs_331 ?_
                    refine a_iconst (pc := 332) (v := nI 1) dX12_stubs_332 (by decide) ?_
                    refine n_icmp_ne (tgt := 341) dX12_stubs_333 (by decide) (by omega) (by decide) (fun c_333 => ?_) (fun c_333 => ?_)
                    · refine a_iload_4 (pc := 341) dX12_stubs_341 ?_
                      exact a_iret (pc := 343) dX12_stubs_343 rfl (zf hz) (hk _ _ _ _ (by first | (exfalso; omega) | (rw [sp_ok (by omega) (by omega) (by omega), show stA F n_tt v 1 St0 = (ch, dk, rm) from by rw [hst]; show sf1 F n_tt v St0 36 = sf1 F n_tt v St0 x; rw [show x = 36 by omega]]; unfold stAns; first | rw [if_pos (by show _ = 1000000; omega)] | (rw [if_neg (by show ¬ _ = 1000000; omega)]; first | rw [if_pos (by omega)] | (rw [if_neg (by omega)]; first | rw [if_pos (by omega)] | rw [if_neg (by omega)])))) hm1)
                    · refine a_iload_6 (pc := 336) dX12_stubs_336 ?_
                      refine a_goto (pc := 338) (tgt := 343) dX12_stubs_338 (by decide) ?_
                      exact a_iret (pc := 343) dX12_stubs_343 rfl (zf hz) (hk _ _ _ _ (by first | (exfalso; omega) | (rw [sp_ok (by omega) (by omega) (by omega), show stA F n_tt v 1 St0 = (ch, dk, rm) from by rw [hst]; show sf1 F n_tt v St0 36 = sf1 F n_tt v St0 x; rw [show x = 36 by omega]]; unfold stAns; first | rw [if_pos (by show _ = 1000000; omega)] | (rw [if_neg (by show ¬ _ = 1000000; omega)]; first | rw [if_pos (by omega)] | (rw [if_neg (by omega)]; first | rw [if_pos (by omega)] | rw [if_neg (by omega)])))) hm1)
                  · refine a_iload_5 (pc := 326) dX12_stubs_326 ?_
                    refine a_goto (pc := 328) (tgt := 343) dX12_stubs_328 (by decide) ?_
                    exact a_iret (pc := 343) dX12_stubs_343 rfl (zf hz) (hk _ _ _ _ (by first | (exfalso; omega) | (rw [sp_ok (by omega) (by omega) (by omega), show stA F n_tt v 1 St0 = (ch, dk, rm) from by rw [hst]; show sf1 F n_tt v St0 36 = sf1 F n_tt v St0 x; rw [show x = 36 by omega]]; unfold stAns; first | rw [if_pos (by show _ = 1000000; omega)] | (rw [if_neg (by show ¬ _ = 1000000; omega)]; first | rw [if_pos (by omega)] | (rw [if_neg (by omega)]; first | rw [if_pos (by omega)] | rw [if_neg (by omega)])))) hm1)
                · refine a_bipush (pc := 317) (v := (-2)) dX12_stubs_317 (by decide) ?_
                  refine a_goto (pc := 319) (tgt := 343) dX12_stubs_319 (by decide) ?_
                  exact a_iret (pc := 343) dX12_stubs_343 rfl (zf hz) (hk _ _ _ _ (by first | (exfalso; omega) | (rw [sp_ok (by omega) (by omega) (by omega), show stA F n_tt v 1 St0 = (ch, dk, rm) from by rw [hst]; show sf1 F n_tt v St0 36 = sf1 F n_tt v St0 x; rw [show x = 36 by omega]]; unfold stAns; first | rw [if_pos (by show _ = 1000000; omega)] | (rw [if_neg (by show ¬ _ = 1000000; omega)]; first | rw [if_pos (by omega)] | (rw [if_neg (by omega)]; first | rw [if_pos (by omega)] | rw [if_neg (by omega)])))) hm1)
              · refine a_iload_7 (pc := 122) dX12_stubs_122 ?_
                refine a_bipush (pc := 124) (v := nI 36) dX12_stubs_124 (by decide) ?_
                refine n_icmp_eq (tgt := 142) dX12_stubs_126 (by decide) (by decide) (by decide) (fun c_126 => ?_) (fun c_126 => by omega)
                refine a_iload_8 (pc := 142) dX12_stubs_142 ?_
                refine a_bipush (pc := 144) (v := nI 36) dX12_stubs_144 (by decide) ?_
                refine n_icmp_eq (tgt := 162) dX12_stubs_146 (by decide) (by omega) (by decide) (fun c_146 => by omega) (fun c_146 => ?_)
                refine a_aloadn_0 (pc := 149) dX12_stubs_149 ?_
                refine mg_9 hm1 rfl dX12_stubs_150 ?_
                refine a_bipush (pc := 153) (v := nI 108) dX12_stubs_153 (by decide) ?_
                refine a_iload_8 (pc := 155) dX12_stubs_155 ?_
                refine n_iadd dX12_stubs_157 ?_
                refine ml_may (x := (cK v x).toNat) hm1 dX12_stubs_158 (by omega) (hb.1 x (by omega)).2.1 ?_
                refine a_topi (bI (cK v x)) (bI_nI _).symm ?_
                refine b_if_ne (pc := 159) (tgt := 297) dX12_stubs_159 (by decide) (fun c_159 => ?_) (fun c_159 => ?_)
                · refine a_iinc_8 (pc := 297) (v := nI (x + 1)) dX12_stubs_297 (nI_add _ _) (by decide) (by first | rfl | trivial) ?_
                  refine a_goto (pc := 300) (tgt := 106) dX12_stubs_300 (by decide) ?_
                  first
                    | exact ih (x + 1) _ _ _ _ _ _ (by omega) (by omega) (by rw [sf1, if_neg (by rw [c_159]; simp), ← hst, hM]) (by omega) hm1
                    | exact ih (x + 1) _ _ _ _ _ _ (by omega) (by omega) (by rw [sf1, if_pos c_159, ← hst]) (by omega) hm1
                · refine a_aloadn_0 (pc := 162) dX12_stubs_162 ?_
                  refine cv_X12_220 (pc := 163) rfl dX12_stubs_163 hm1.2.2.1 (Nat.le_of_ble_eq_true rfl) ?_
                  refine m_begins (by omega) hz hm1 hb (fun h4 t4 hm4 hv4 => ?_)
                  refine a_iload_7 (pc := 166) dX12_stubs_166 ?_
                  refine a_bipush (pc := 168) (v := nI 36) dX12_stubs_168 (by decide) ?_
                  refine n_icmp_ge (tgt := 195) dX12_stubs_170 (by decide) (by decide) (by decide) (fun c_170 => ?_) (fun c_170 => by omega)
                  have w99 := okv.1 x
                  refine a_iload_8 (pc := 195) dX12_stubs_195 ?_
                  refine a_bipush (pc := 197) (v := nI 36) dX12_stubs_197 (by decide) ?_
                  refine n_icmp_ge (tgt := 224) dX12_stubs_199 (by decide) (by omega) (by decide) (fun c_199 => by omega) (fun c_199 => ?_)
                  refine a_aloadn_0 (pc := 202) dX12_stubs_202 ?_
                  refine mg_31 hm4 rfl dX12_stubs_203 ?_
                  refine a_iload_8 (pc := 206) dX12_stubs_206 ?_
                  refine a_bipush (pc := 208) (v := nI 99) dX12_stubs_208 (by decide) ?_
                  refine a_aloadn_0 (pc := 210) dX12_stubs_210 ?_
                  refine mg_31 hm4 rfl dX12_stubs_211 ?_
                  refine a_iload_8 (pc := 214) dX12_stubs_214 ?_
                  refine ml_wax (x := cW v x) hm4 dX12_stubs_216 (by omega) (hv4.1 x (by omega)).1 ?_
                  refine a_bipush (pc := 217) (v := nI 12) dX12_stubs_217 (by decide) ?_
                  refine n_iadd dX12_stubs_219 ?_
                  refine cs_X12_257 (pc := 220) rfl dX12_stubs_220 (Nat.le_of_ble_eq_true rfl) ?_
                  refine m_least (by omega) hz (by omega) (by omega) ?_
                  refine ms_wax (j := x) (x := min 99 (cW v x + 12)) hm4 dX12_stubs_223 (by omega) (fun h5 hm5 => ?_)
                  obtain ⟨t6, ht6⟩ : ∃ t9 : MT, t9 = (sWax (b, p1, t4, o) (va_up (mWax (b, p1, t4, o)) x (min 99 (cW v x + 12)))).2.2.1 := ⟨_, rfl⟩
                  have hm6 : MS G h0 h5 (b, p1, t6, o) := by rw [ht6]; exact hm5
                  have hv6 : HV (b, p1, t6, o) (add12 v x) := by rw [ht6]; exact HV_W hv4
                  have okv6 : okC (add12 v x) := okC_W okv (by omega) (by omega)
                  have w96 := fun j => okv6.1 j
                  refine a_aloadn_0 (pc := 224) dX12_stubs_224 ?_
                  refine a_iloadn_2 (pc := 225) dX12_stubs_225 ?_
                  refine cv_X12_228 (pc := 226) rfl dX12_stubs_226 hm6.2.2.1 (Nat.le_of_ble_eq_true rfl) ?_
                  refine m_goesHours (by omega) hz hm6 hv6 okv6 hL (by omega) (fun h7 p7 t7 hm7 hv7 => ?_)
                  have cl1 := chN_le F n_tt (add12 v x)
                  have cl2 := dkN_le F n_tt (add12 v x)
                  refine a_aloadn_0 (pc := 229) dX12_stubs_229 ?_
                  refine cv_X12_235 (pc := 230) rfl dX12_stubs_230 hm7.2.2.1 (Nat.le_of_ble_eq_true rfl) ?_
                  refine m_darkChildren (by omega) hz hm7 hv7 ?_
                  refine a_topi (nI (chN F n_tt (add12 v x))) rfl ?_
                  refine a_iload_5 (pc := 233) dX12_stubs_233 ?_
                  refine n_icmp_lt (tgt := 256) dX12_stubs_235 (by decide) (by omega) (by omega) (fun c_235 => ?_) (fun c_235 => ?_)
                  · have hM : stS F n_tt (add12 v x) (nI x) (ch, dk, rm) = (chN F n_tt (add12 v x), dkN F n_tt (add12 v x), (nI x)) := if_pos (Or.inl c_235)
                    refine a_aloadn_0 (pc := 256) dX12_stubs_256 ?_
                    refine cv_X12_235 (pc := 257) rfl dX12_stubs_257 hm7.2.2.1 (Nat.le_of_ble_eq_true rfl) ?_
                    refine m_darkChildren (by omega) hz hm7 hv7 ?_
                    refine a_topi (nI (chN F n_tt (add12 v x))) rfl ?_
                    refine a_istore_5 (pc := 260) dX12_stubs_260 (by decide) (by first | rfl | trivial) ?_
                    refine a_aloadn_0 (pc := 262) dX12_stubs_262 ?_
                    refine cv_X12_232 (pc := 263) rfl dX12_stubs_263 hm7.2.2.1 (Nat.le_of_ble_eq_true rfl) ?_
                    refine m_darkMany (by omega) hz hm7 hv7 ?_
                    refine a_topi (nI (dkN F n_tt (add12 v x))) rfl ?_
                    refine a_istore_6 (pc := 266) dX12_stubs_266 (by decide) (by first | rfl | trivial) ?_
                    refine a_iloadn_1 (pc := 268) dX12_stubs_268 ?_
                    refine n_if_ne (tgt := 277) dX12_stubs_269 (by decide) (by decide) (fun c_269 => ?_) (fun c_269 => by omega)
                    refine a_iloadn_1 (pc := 277) dX12_stubs_277 ?_
                    refine a_iconst (pc := 278) (v := nI 1) dX12_stubs_278 (by decide) ?_
                    refine n_icmp_ne (tgt := 287) dX12_stubs_279 (by decide) (by decide) (by decide) (fun c_279 => by omega) (fun c_279 => ?_)
                    refine a_iload_8 (pc := 282) dX12_stubs_282 ?_
                    refine a_goto (pc := 284) (tgt := 295) dX12_stubs_284 (by decide) ?_
                    refine a_istore_4 (pc := 295) dX12_stubs_295 (by decide) (by first | rfl | trivial) ?_
                    refine a_iinc_8 (pc := 297) (v := nI (x + 1)) dX12_stubs_297 (nI_add _ _) (by decide) (by first | rfl | trivial) ?_
                    refine a_goto (pc := 300) (tgt := 106) dX12_stubs_300 (by decide) ?_
                    first
                      | exact ih (x + 1) _ _ _ _ _ _ (by omega) (by omega) (by rw [sf1, if_neg (by rw [c_159]; simp), ← hst, hM]) (by omega) hm7
                      | exact ih (x + 1) _ _ _ _ _ _ (by omega) (by omega) (by rw [sf1, if_pos c_159, ← hst]) (by omega) hm7
                  · refine a_aloadn_0 (pc := 238) dX12_stubs_238 ?_
                    refine cv_X12_235 (pc := 239) rfl dX12_stubs_239 hm7.2.2.1 (Nat.le_of_ble_eq_true rfl) ?_
                    refine m_darkChildren (by omega) hz hm7 hv7 ?_
                    refine a_topi (nI (chN F n_tt (add12 v x))) rfl ?_
                    refine a_iload_5 (pc := 242) dX12_stubs_242 ?_
                    refine n_icmp_ne (tgt := 297) dX12_stubs_244 (by decide) (by omega) (by omega) (fun c_244 => ?_) (fun c_244 => ?_)
                    · have hM : stS F n_tt (add12 v x) (nI x) (ch, dk, rm) = (ch, dk, rm) := if_neg (by show ¬ (_ < ch ∨ (_ = ch ∧ _)); omega)
                      refine a_iinc_8 (pc := 297) (v := nI (x + 1)) dX12_stubs_297 (nI_add _ _) (by decide) (by first | rfl | trivial) ?_
                      refine a_goto (pc := 300) (tgt := 106) dX12_stubs_300 (by decide) ?_
                      first
                        | exact ih (x + 1) _ _ _ _ _ _ (by omega) (by omega) (by rw [sf1, if_neg (by rw [c_159]; simp), ← hst, hM]) (by omega) hm7
                        | exact ih (x + 1) _ _ _ _ _ _ (by omega) (by omega) (by rw [sf1, if_pos c_159, ← hst]) (by omega) hm7
                    · refine a_aloadn_0 (pc := 247) dX12_stubs_247 ?_
                      refine cv_X12_232 (pc := 248) rfl dX12_stubs_248 hm7.2.2.1 (Nat.le_of_ble_eq_true rfl) ?_
                      refine m_darkMany (by omega) hz hm7 hv7 ?_
                      refine a_topi (nI (dkN F n_tt (add12 v x))) rfl ?_
                      refine a_iload_6 (pc := 251) dX12_stubs_251 ?_
                      refine n_icmp_ge (tgt := 297) dX12_stubs_253 (by decide) (by omega) (by omega) (fun c_253 => ?_) (fun c_253 => ?_)
                      · have hM : stS F n_tt (add12 v x) (nI x) (ch, dk, rm) = (ch, dk, rm) := if_neg (by show ¬ (_ < ch ∨ (_ = ch ∧ _ < dk)); omega)
                        refine a_iinc_8 (pc := 297) (v := nI (x + 1)) dX12_stubs_297 (nI_add _ _) (by decide) (by first | rfl | trivial) ?_
                        refine a_goto (pc := 300) (tgt := 106) dX12_stubs_300 (by decide) ?_
                        first
                          | exact ih (x + 1) _ _ _ _ _ _ (by omega) (by omega) (by rw [sf1, if_neg (by rw [c_159]; simp), ← hst, hM]) (by omega) hm7
                          | exact ih (x + 1) _ _ _ _ _ _ (by omega) (by omega) (by rw [sf1, if_pos c_159, ← hst]) (by omega) hm7
                      · have hM : stS F n_tt (add12 v x) (nI x) (ch, dk, rm) = (chN F n_tt (add12 v x), dkN F n_tt (add12 v x), (nI x)) := if_pos (Or.inr ⟨c_244, by show _ < dk; omega⟩)
                        refine a_aloadn_0 (pc := 256) dX12_stubs_256 ?_
                        refine cv_X12_235 (pc := 257) rfl dX12_stubs_257 hm7.2.2.1 (Nat.le_of_ble_eq_true rfl) ?_
                        refine m_darkChildren (by omega) hz hm7 hv7 ?_
                        refine a_topi (nI (chN F n_tt (add12 v x))) rfl ?_
                        refine a_istore_5 (pc := 260) dX12_stubs_260 (by decide) (by first | rfl | trivial) ?_
                        refine a_aloadn_0 (pc := 262) dX12_stubs_262 ?_
                        refine cv_X12_232 (pc := 263) rfl dX12_stubs_263 hm7.2.2.1 (Nat.le_of_ble_eq_true rfl) ?_
                        refine m_darkMany (by omega) hz hm7 hv7 ?_
                        refine a_topi (nI (dkN F n_tt (add12 v x))) rfl ?_
                        refine a_istore_6 (pc := 266) dX12_stubs_266 (by decide) (by first | rfl | trivial) ?_
                        refine a_iloadn_1 (pc := 268) dX12_stubs_268 ?_
                        refine n_if_ne (tgt := 277) dX12_stubs_269 (by decide) (by decide) (fun c_269 => ?_) (fun c_269 => by omega)
                        refine a_iloadn_1 (pc := 277) dX12_stubs_277 ?_
                        refine a_iconst (pc := 278) (v := nI 1) dX12_stubs_278 (by decide) ?_
                        refine n_icmp_ne (tgt := 287) dX12_stubs_279 (by decide) (by decide) (by decide) (fun c_279 => by omega) (fun c_279 => ?_)
                        refine a_iload_8 (pc := 282) dX12_stubs_282 ?_
                        refine a_goto (pc := 284) (tgt := 295) dX12_stubs_284 (by decide) ?_
                        refine a_istore_4 (pc := 295) dX12_stubs_295 (by decide) (by first | rfl | trivial) ?_
                        refine a_iinc_8 (pc := 297) (v := nI (x + 1)) dX12_stubs_297 (nI_add _ _) (by decide) (by first | rfl | trivial) ?_
                        refine a_goto (pc := 300) (tgt := 106) dX12_stubs_300 (by decide) ?_
                        first
                          | exact ih (x + 1) _ _ _ _ _ _ (by omega) (by omega) (by rw [sf1, if_neg (by rw [c_159]; simp), ← hst, hM]) (by omega) hm7
                          | exact ih (x + 1) _ _ _ _ _ _ (by omega) (by omega) (by rw [sf1, if_pos c_159, ← hst]) (by omega) hm7
          exact lp 38 0 _ _ _ _ _ _ (by omega) (by omega) rfl (by omega) hm
        · refine a_bipush (pc := 38) (v := (-2)) dX12_stubs_38 (by decide) ?_
          refine a_istore_4 (pc := 40) dX12_stubs_40 (by decide) (by first | rfl | trivial) ?_
          refine a_ldcw (pc := 42) dX12_stubs_42 w_1305 ?_
          refine a_topi (nI 1000000) (by decide) ?_
          refine a_istore_5 (pc := 45) dX12_stubs_45 (by decide) (by first | rfl | trivial) ?_
          refine a_ldcw (pc := 47) dX12_stubs_47 w_1305 ?_
          refine a_topi (nI 1000000) (by decide) ?_
          refine a_istore_6 (pc := 50) dX12_stubs_50 (by decide) (by first | rfl | trivial) ?_
          refine a_iloadn_1 (pc := 52) dX12_stubs_52 ?_
          refine a_iconst (pc := 53) (v := nI 2) dX12_stubs_53 (by decide) ?_
          refine n_icmp_ne (tgt := 61) dX12_stubs_54 (by decide) (by decide) (by decide) (fun c_54 => by omega) (fun c_54 => ?_)
          refine a_iconst (pc := 57) (v := nI 0) dX12_stubs_57 (by decide) ?_
          refine a_goto (pc := 58) (tgt := 63) dX12_stubs_58 (by decide) ?_
          refine a_istore_7 (pc := 63) dX12_stubs_63 (by decide) (by first | rfl | trivial) ?_
          have la : ∀ (n : Nat) (a : Nat) (h1 : List va_E) (p1 : MP) (t1 : MT) (ch dk : Nat) (rm : Int32), 37 - a < n → (a ≤ 36) → ((ch, dk, rm) = sf3 F n_tt v St0 a) → (ch ≤ 1000000 ∧ dk ≤ 1000000) → (MS G h0 h1 (b, p1, t1, o)) → AW G yX12_stubs cX12_stubs 9 (some .int) (rmx (d + 1) 0 0) (ZQ G 0 0 (h.length + 0) Q) 0 0 65 [some (.ref (gB G + 80)), some (.int (nI (2))), some (.int (nI (n_tt))), some (.int (nI (n_w))), some (.int (rm)), some (.int (nI (ch))), some (.int (nI (dk))), some (.int (nI (a))), none] [] h1 := by
            intro n
            induction n with
            | zero => intro a h1 p1 t1 ch dk rm hn; exact absurd hn (Nat.not_lt_zero _)
            | succ n iha =>
              intro a h1 p1 t1 ch dk rm hn ha hst hcd hm1
              refine a_iload_7 (pc := 65) dX12_stubs_65 ?_
              refine a_iloadn_1 (pc := 67) dX12_stubs_67 ?_
              refine a_iconst (pc := 68) (v := nI 2) dX12_stubs_68 (by decide) ?_
              refine n_icmp_ne (tgt := 77) dX12_stubs_69 (by decide) (by decide) (by decide) (fun c_69 => by omega) (fun c_69 => ?_)
              refine a_bipush (pc := 72) (v := nI 36) dX12_stubs_72 (by decide) ?_
              refine a_goto (pc := 74) (tgt := 79) dX12_stubs_74 (by decide) ?_
              refine n_icmp_ge (tgt := 309) dX12_stubs_79 (by decide) (by omega) (by decide) (fun c_79 => ?_) (fun c_79 => ?_)
              · refine a_iload_5 (pc := 309) dX12_stubs_309 ?_
                refine a_ldcw (pc := 311) dX12_stubs_311 w_1305 ?_
                refine a_topi (nI 1000000) (by decide) ?_
                refine n_icmp_ne (tgt := 322) dX12_stubs_314 (by decide) (by omega) (by decide) (fun c_314 => ?_) (fun c_314 => ?_)
                · refine a_iloadn_3 (pc := 322) dX12_stubs_322 ?_
                  refine n_if_ne (tgt := 331) dX12_stubs_323 (by decide) (by omega) (fun c_323 => ?_) (fun c_323 => ?_)
                  · refine a_iloadn_3 (pc := 331) dX12_stubs_331 ?_
                    refine a_iconst (pc := 332) (v := nI 1) dX12_stubs_332 (by decide) ?_
                    refine n_icmp_ne (tgt := 341) dX12_stubs_333 (by decide) (by omega) (by decide) (fun c_333 => ?_) (fun c_333 => ?_)
                    · refine a_iload_4 (pc := 341) dX12_stubs_341 ?_
                      exact a_iret (pc := 343) dX12_stubs_343 rfl (zf hz) (hk _ _ _ _ (by first | (exfalso; omega) | (rw [sp_ok (by omega) (by omega) (by omega), show stA F n_tt v 2 St0 = (ch, dk, rm) from by rw [hst]; show sf3 F n_tt v St0 36 = sf3 F n_tt v St0 a; rw [show a = 36 by omega]]; unfold stAns; first | rw [if_pos (by show _ = 1000000; omega)] | (rw [if_neg (by show ¬ _ = 1000000; omega)]; first | rw [if_pos (by omega)] | (rw [if_neg (by omega)]; first | rw [if_pos (by omega)] | rw [if_neg (by omega)])))) hm1)
                    · refine a_iload_6 (pc := 336) dX12_stubs_336 ?_
                      refine a_goto (pc := 338) (tgt := 343) dX12_stubs_338 (by decide) ?_
                      exact a_iret (pc := 343) dX12_stubs_343 rfl (zf hz) (hk _ _ _ _ (by first | (exfalso; omega) | (rw [sp_ok (by omega) (by omega) (by omega), show stA F n_tt v 2 St0 = (ch, dk, rm) from by rw [hst]; show sf3 F n_tt v St0 36 = sf3 F n_tt v St0 a; rw [show a = 36 by omega]]; unfold stAns; first | rw [if_pos (by show _ = 1000000; omega)] | (rw [if_neg (by show ¬ _ = 1000000; omega)]; first | rw [if_pos (by omega)] | (rw [if_neg (by omega)]; first | rw [if_pos (by omega)] | rw [if_neg (by omega)])))) hm1)
                  · refine a_iload_5 (pc := 326) dX12_stubs_326 ?_
                    refine a_goto (pc := 328) (tgt := 343) dX12_stubs_328 (by decide) ?_
                    exact a_iret (pc := 343) dX12_stubs_343 rfl (zf hz) (hk _ _ _ _ (by first | (exfalso; omega) | (rw [sp_ok (by omega) (by omega) (by omega), show stA F n_tt v 2 St0 = (ch, dk, rm) from by rw [hst]; show sf3 F n_tt v St0 36 = sf3 F n_tt v St0 a; rw [show a = 36 by omega]]; unfold stAns; first | rw [if_pos (by show _ = 1000000; omega)] | (rw [if_neg (by show ¬ _ = 1000000; omega)]; first | rw [if_pos (by omega)] | (rw [if_neg (by omega)]; first | rw [if_pos (by omega)] | rw [if_neg (by omega)])))) hm1)
                · refine a_bipush (pc := 317) (v := (-2)) dX12_stubs_317 (by decide) ?_
                  refine a_goto (pc := 319) (tgt := 343) dX12_stubs_319 (by decide) ?_
                  exact a_iret (pc := 343) dX12_stubs_343 rfl (zf hz) (hk _ _ _ _ (by first | (exfalso; omega) | (rw [sp_ok (by omega) (by omega) (by omega), show stA F n_tt v 2 St0 = (ch, dk, rm) from by rw [hst]; show sf3 F n_tt v St0 36 = sf3 F n_tt v St0 a; rw [show a = 36 by omega]]; unfold stAns; first | rw [if_pos (by show _ = 1000000; omega)] | (rw [if_neg (by show ¬ _ = 1000000; omega)]; first | rw [if_pos (by omega)] | (rw [if_neg (by omega)]; first | rw [if_pos (by omega)] | rw [if_neg (by omega)])))) hm1)
              · refine a_iloadn_1 (pc := 82) dX12_stubs_82 ?_
                refine n_if_ne (tgt := 91) dX12_stubs_83 (by decide) (by decide) (fun c_83 => ?_) (fun c_83 => by omega)
                refine a_iloadn_1 (pc := 91) dX12_stubs_91 ?_
                refine a_iconst (pc := 92) (v := nI 2) dX12_stubs_92 (by decide) ?_
                refine n_icmp_ne (tgt := 103) dX12_stubs_93 (by decide) (by decide) (by decide) (fun c_93 => by omega) (fun c_93 => ?_)
                refine a_iload_7 (pc := 96) dX12_stubs_96 ?_
                refine a_iconst (pc := 98) (v := nI 1) dX12_stubs_98 (by decide) ?_
                refine n_iadd dX12_stubs_99 ?_
                refine a_goto (pc := 100) (tgt := 104) dX12_stubs_100 (by decide) ?_
                refine a_istore_8 (pc := 104) dX12_stubs_104 (by decide) (by first | rfl | trivial) ?_
                obtain ⟨S1, hS1⟩ : ∃ S1, S1 = sf3 F n_tt v St0 a := ⟨_, rfl⟩
                rw [← hS1] at hst
                have li : ∀ (n : Nat) (x : Nat) (h1 : List va_E) (p1 : MP) (t1 : MT) (ch dk : Nat) (rm : Int32), 37 - x < n → (a < x ∧ x ≤ 36) → ((ch, dk, rm) = sf2 F n_tt v a S1 x) → (ch ≤ 1000000 ∧ dk ≤ 1000000) → (MS G h0 h1 (b, p1, t1, o)) → AW G yX12_stubs cX12_stubs 9 (some .int) (rmx (d + 1) 0 0) (ZQ G 0 0 (h.length + 0) Q) 0 0 106 [some (.ref (gB G + 80)), some (.int (nI (2))), some (.int (nI (n_tt))), some (.int (nI (n_w))), some (.int (rm)), some (.int (nI (ch))), some (.int (nI (dk))), some (.int (nI (a))), some (.int (nI (x)))] [] h1 := by
                  intro n
                  induction n with
                  | zero => intro x h1 p1 t1 ch dk rm hn; exact absurd hn (Nat.not_lt_zero _)
                  | succ n ih =>
                    intro x h1 p1 t1 ch dk rm hn hx hst hcd hm1
                    refine a_iload_8 (pc := 106) dX12_stubs_106 ?_
                    refine a_iloadn_1 (pc := 108) dX12_stubs_108 ?_
                    refine n_if_ne (tgt := 117) dX12_stubs_109 (by decide) (by decide) (fun c_109 => ?_) (fun c_109 => by omega)
                    refine a_bipush (pc := 117) (v := nI 36) dX12_stubs_117 (by decide) ?_
                    refine n_icmp_ge (tgt := 303) dX12_stubs_119 (by decide) (by omega) (by decide) (fun c_119 => ?_) (fun c_119 => ?_)
                    · refine a_iinc_7 (pc := 303) (v := nI (a + 1)) dX12_stubs_303 (nI_add _ _) (by decide) (by first | rfl | trivial) ?_
                      refine a_goto (pc := 306) (tgt := 65) dX12_stubs_306 (by decide) ?_
                      refine a_ls (ls' := [some _, some _, some _, some _, some _, some _, some _, some _, none]) ⟨rfl, rfl, rfl, rfl, rfl, rfl, rfl, rfl, trivial⟩ ?_
                      exact iha (a + 1) _ _ _ _ _ _ (by omega) (by omega) (by rw [sf3, ← hS1, hst, show x = 36 by omega]) (by omega) hm1
                    · refine a_iload_7 (pc := 122) dX12_stubs_122 ?_
                      refine a_bipush (pc := 124) (v := nI 36) dX12_stubs_124 (by decide) ?_
                      refine n_icmp_eq (tgt := 142) dX12_stubs_126 (by decide) (by omega) (by decide) (fun c_126 => by omega) (fun c_126 => ?_)
                      refine a_aloadn_0 (pc := 129) dX12_stubs_129 ?_
                      refine mg_9 hm1 rfl dX12_stubs_130 ?_
                      refine a_bipush (pc := 133) (v := nI 108) dX12_stubs_133 (by decide) ?_
                      refine a_iload_7 (pc := 135) dX12_stubs_135 ?_
                      refine n_iadd dX12_stubs_137 ?_
                      refine ml_may (x := (cK v a).toNat) hm1 dX12_stubs_138 (by omega) (hb.1 a (by omega)).2.1 ?_
                      refine a_topi (bI (cK v a)) (bI_nI _).symm ?_
                      refine b_if_ne (pc := 139) (tgt := 297) dX12_stubs_139 (by decide) (fun c_139 => ?_) (fun c_139 => ?_)
                      · refine a_iinc_8 (pc := 297) (v := nI (x + 1)) dX12_stubs_297 (nI_add _ _) (by decide) (by first | rfl | trivial) ?_
                        refine a_goto (pc := 300) (tgt := 106) dX12_stubs_300 (by decide) ?_
                        first
                          | exact ih (x + 1) _ _ _ _ _ _ (by omega) (by omega) (by rw [sf2, if_neg (by rw [c_139, c_159]; simp; omega), ← hst, hM]) (by omega) hm1
                          | exact ih (x + 1) _ _ _ _ _ _ (by omega) (by omega) (by rw [sf2, if_pos (Or.inr (Or.inl c_139)), ← hst]) (by omega) hm1
                          | exact ih (x + 1) _ _ _ _ _ _ (by omega) (by omega) (by rw [sf2, if_pos (Or.inr (Or.inr c_159)), ← hst]) (by omega) hm1
                      · refine a_iload_8 (pc := 142) dX12_stubs_142 ?_
                        refine a_bipush (pc := 144) (v := nI 36) dX12_stubs_144 (by decide) ?_
                        refine n_icmp_eq (tgt := 162) dX12_stubs_146 (by decide) (by omega) (by decide) (fun c_146 => by omega) (fun c_146 => ?_)
                        refine a_aloadn_0 (pc := 149) dX12_stubs_149 ?_
                        refine mg_9 hm1 rfl dX12_stubs_150 ?_
                        refine a_bipush (pc := 153) (v := nI 108) dX12_stubs_153 (by decide) ?_
                        refine a_iload_8 (pc := 155) dX12_stubs_155 ?_
                        refine n_iadd dX12_stubs_157 ?_
                        refine ml_may (x := (cK v x).toNat) hm1 dX12_stubs_158 (by omega) (hb.1 x (by omega)).2.1 ?_
                        refine a_topi (bI (cK v x)) (bI_nI _).symm ?_
                        refine b_if_ne (pc := 159) (tgt := 297) dX12_stubs_159 (by decide) (fun c_159 => ?_) (fun c_159 => ?_)
                        · refine a_iinc_8 (pc := 297) (v := nI (x + 1)) dX12_stubs_297 (nI_add _ _) (by decide) (by first | rfl | trivial) ?_
                          refine a_goto (pc := 300) (tgt := 106) dX12_stubs_300 (by decide) ?_
                          first
                            | exact ih (x + 1) _ _ _ _ _ _ (by omega) (by omega) (by rw [sf2, if_neg (by rw [c_139, c_159]; simp; omega), ← hst, hM]) (by omega) hm1
                            | exact ih (x + 1) _ _ _ _ _ _ (by omega) (by omega) (by rw [sf2, if_pos (Or.inr (Or.inl c_139)), ← hst]) (by omega) hm1
                            | exact ih (x + 1) _ _ _ _ _ _ (by omega) (by omega) (by rw [sf2, if_pos (Or.inr (Or.inr c_159)), ← hst]) (by omega) hm1
                        · refine a_aloadn_0 (pc := 162) dX12_stubs_162 ?_
                          refine cv_X12_220 (pc := 163) rfl dX12_stubs_163 hm1.2.2.1 (Nat.le_of_ble_eq_true rfl) ?_
                          refine m_begins (by omega) hz hm1 hb (fun h4 t4 hm4 hv4 => ?_)
                          have w99 := okv.1 a
                          refine a_iload_7 (pc := 166) dX12_stubs_166 ?_
                          refine a_bipush (pc := 168) (v := nI 36) dX12_stubs_168 (by decide) ?_
                          refine n_icmp_ge (tgt := 195) dX12_stubs_170 (by decide) (by omega) (by decide) (fun c_170 => by omega) (fun c_170 => ?_)
                          refine a_aloadn_0 (pc := 173) dX12_stubs_173 ?_
                          refine mg_31 hm4 rfl dX12_stubs_174 ?_
                          refine a_iload_7 (pc := 177) dX12_stubs_177 ?_
                          refine a_bipush (pc := 179) (v := nI 99) dX12_stubs_179 (by decide) ?_
                          refine a_aloadn_0 (pc := 181) dX12_stubs_181 ?_
                          refine mg_31 hm4 rfl dX12_stubs_182 ?_
                          refine a_iload_7 (pc := 185) dX12_stubs_185 ?_
                          refine ml_wax (x := cW v a) hm4 dX12_stubs_187 (by omega) (hv4.1 a (by omega)).1 ?_
                          refine a_bipush (pc := 188) (v := nI 12) dX12_stubs_188 (by decide) ?_
                          refine n_iadd dX12_stubs_190 ?_
                          refine cs_X12_257 (pc := 191) rfl dX12_stubs_191 (Nat.le_of_ble_eq_true rfl) ?_
                          refine m_least (by omega) hz (by omega) (by omega) ?_
                          refine ms_wax (j := a) (x := min 99 (cW v a + 12)) hm4 dX12_stubs_194 (by omega) (fun h5 hm5 => ?_)
                          obtain ⟨t6, ht6⟩ : ∃ t9 : MT, t9 = (sWax (b, p1, t4, o) (va_up (mWax (b, p1, t4, o)) a (min 99 (cW v a + 12)))).2.2.1 := ⟨_, rfl⟩
                          have hm6 : MS G h0 h5 (b, p1, t6, o) := by rw [ht6]; exact hm5
                          have hv6 : HV (b, p1, t6, o) (add12 v a) := by rw [ht6]; exact HV_W hv4
                          have okv6 : okC (add12 v a) := okC_W okv (by omega) (by omega)
                          have w96 := fun j => okv6.1 j
                          have w86 := okv6.1 x
                          refine a_iload_8 (pc := 195) dX12_stubs_195 ?_
                          refine a_bipush (pc := 197) (v := nI 36) dX12_stubs_197 (by decide) ?_
                          refine n_icmp_ge (tgt := 224) dX12_stubs_199 (by decide) (by omega) (by decide) (fun c_199 => by omega) (fun c_199 => ?_)
                          refine a_aloadn_0 (pc := 202) dX12_stubs_202 ?_
                          refine mg_31 hm6 rfl dX12_stubs_203 ?_
                          refine a_iload_8 (pc := 206) dX12_stubs_206 ?_
                          refine a_bipush (pc := 208) (v := nI 99) dX12_stubs_208 (by decide) ?_
                          refine a_aloadn_0 (pc := 210) dX12_stubs_210 ?_
                          refine mg_31 hm6 rfl dX12_stubs_211 ?_
                          refine a_iload_8 (pc := 214) dX12_stubs_214 ?_
                          refine ml_wax (x := cW ((add12 v a)) x) hm6 dX12_stubs_216 (by omega) (hv6.1 x (by omega)).1 ?_
                          refine a_bipush (pc := 217) (v := nI 12) dX12_stubs_217 (by decide) ?_
                          refine n_iadd dX12_stubs_219 ?_
                          refine cs_X12_257 (pc := 220) rfl dX12_stubs_220 (Nat.le_of_ble_eq_true rfl) ?_
                          refine m_least (by omega) hz (by omega) (by omega) ?_
                          refine ms_wax (j := x) (x := min 99 (cW ((add12 v a)) x + 12)) hm6 dX12_stubs_223 (by omega) (fun h7 hm7 => ?_)
                          obtain ⟨t8, ht8⟩ : ∃ t9 : MT, t9 = (sWax (b, p1, t6, o) (va_up (mWax (b, p1, t6, o)) x (min 99 (cW (add12 v a) x + 12)))).2.2.1 := ⟨_, rfl⟩
                          have hm8 : MS G h0 h7 (b, p1, t8, o) := by rw [ht8]; exact hm7
                          have hv8 : HV (b, p1, t8, o) (add12 (add12 v a) x) := by rw [ht8]; exact HV_W hv6
                          have okv8 : okC (add12 (add12 v a) x) := okC_W okv6 (by omega) (by omega)
                          have w98 := fun j => okv8.1 j
                          refine a_aloadn_0 (pc := 224) dX12_stubs_224 ?_
                          refine a_iloadn_2 (pc := 225) dX12_stubs_225 ?_
                          refine cv_X12_228 (pc := 226) rfl dX12_stubs_226 hm8.2.2.1 (Nat.le_of_ble_eq_true rfl) ?_
                          refine m_goesHours (by omega) hz hm8 hv8 okv8 hL (by omega) (fun h9 p9 t9 hm9 hv9 => ?_)
                          have cl1 := chN_le F n_tt (add12 (add12 v a) x)
                          have cl2 := dkN_le F n_tt (add12 (add12 v a) x)
                          refine a_aloadn_0 (pc := 229) dX12_stubs_229 ?_
                          refine cv_X12_235 (pc := 230) rfl dX12_stubs_230 hm9.2.2.1 (Nat.le_of_ble_eq_true rfl) ?_
                          refine m_darkChildren (by omega) hz hm9 hv9 ?_
                          refine a_topi (nI (chN F n_tt (add12 (add12 v a) x))) rfl ?_
                          refine a_iload_5 (pc := 233) dX12_stubs_233 ?_
                          refine n_icmp_lt (tgt := 256) dX12_stubs_235 (by decide) (by omega) (by omega) (fun c_235 => ?_) (fun c_235 => ?_)
                          · have hM : stS F n_tt (add12 (add12 v a) x) (nI (36 * a + x)) (ch, dk, rm) = (chN F n_tt (add12 (add12 v a) x), dkN F n_tt (add12 (add12 v a) x), (nI (36 * a + x))) := if_pos (Or.inl c_235)
                            refine a_aloadn_0 (pc := 256) dX12_stubs_256 ?_
                            refine cv_X12_235 (pc := 257) rfl dX12_stubs_257 hm9.2.2.1 (Nat.le_of_ble_eq_true rfl) ?_
                            refine m_darkChildren (by omega) hz hm9 hv9 ?_
                            refine a_topi (nI (chN F n_tt (add12 (add12 v a) x))) rfl ?_
                            refine a_istore_5 (pc := 260) dX12_stubs_260 (by decide) (by first | rfl | trivial) ?_
                            refine a_aloadn_0 (pc := 262) dX12_stubs_262 ?_
                            refine cv_X12_232 (pc := 263) rfl dX12_stubs_263 hm9.2.2.1 (Nat.le_of_ble_eq_true rfl) ?_
                            refine m_darkMany (by omega) hz hm9 hv9 ?_
                            refine a_topi (nI (dkN F n_tt (add12 (add12 v a) x))) rfl ?_
                            refine a_istore_6 (pc := 266) dX12_stubs_266 (by decide) (by first | rfl | trivial) ?_
                            refine a_iloadn_1 (pc := 268) dX12_stubs_268 ?_
                            refine n_if_ne (tgt := 277) dX12_stubs_269 (by decide) (by decide) (fun c_269 => ?_) (fun c_269 => by omega)
                            refine a_iloadn_1 (pc := 277) dX12_stubs_277 ?_
                            refine a_iconst (pc := 278) (v := nI 1) dX12_stubs_278 (by decide) ?_
                            refine n_icmp_ne (tgt := 287) dX12_stubs_279 (by decide) (by decide) (by decide) (fun c_279 => ?_) (fun c_279 => by omega)
                            refine a_bipush (pc := 287) (v := nI 36) dX12_stubs_287 (by decide) ?_
                            refine a_iload_7 (pc := 289) dX12_stubs_289 ?_
                            refine n_imul dX12_stubs_291 ?_
                            refine a_iload_8 (pc := 292) dX12_stubs_292 ?_
                            refine n_iadd dX12_stubs_294 ?_
                            refine a_istore_4 (pc := 295) dX12_stubs_295 (by decide) (by first | rfl | trivial) ?_
                            refine a_iinc_8 (pc := 297) (v := nI (x + 1)) dX12_stubs_297 (nI_add _ _) (by decide) (by first | rfl | trivial) ?_
                            refine a_goto (pc := 300) (tgt := 106) dX12_stubs_300 (by decide) ?_
                            first
                              | exact ih (x + 1) _ _ _ _ _ _ (by omega) (by omega) (by rw [sf2, if_neg (by rw [c_139, c_159]; simp; omega), ← hst, hM]) (by omega) hm9
                              | exact ih (x + 1) _ _ _ _ _ _ (by omega) (by omega) (by rw [sf2, if_pos (Or.inr (Or.inl c_139)), ← hst]) (by omega) hm9
                              | exact ih (x + 1) _ _ _ _ _ _ (by omega) (by omega) (by rw [sf2, if_pos (Or.inr (Or.inr c_159)), ← hst]) (by omega) hm9
                          · refine a_aloadn_0 (pc := 238) dX12_stubs_238 ?_
                            refine cv_X12_235 (pc := 239) rfl dX12_stubs_239 hm9.2.2.1 (Nat.le_of_ble_eq_true rfl) ?_
                            refine m_darkChildren (by omega) hz hm9 hv9 ?_
                            refine a_topi (nI (chN F n_tt (add12 (add12 v a) x))) rfl ?_
                            refine a_iload_5 (pc := 242) dX12_stubs_242 ?_
                            refine n_icmp_ne (tgt := 297) dX12_stubs_244 (by decide) (by omega) (by omega) (fun c_244 => ?_) (fun c_244 => ?_)
                            · have hM : stS F n_tt (add12 (add12 v a) x) (nI (36 * a + x)) (ch, dk, rm) = (ch, dk, rm) := if_neg (by show ¬ (_ < ch ∨ (_ = ch ∧ _)); omega)
                              refine a_iinc_8 (pc := 297) (v := nI (x + 1)) dX12_stubs_297 (nI_add _ _) (by decide) (by first | rfl | trivial) ?_
                              refine a_goto (pc := 300) (tgt := 106) dX12_stubs_300 (by decide) ?_
                              first
                                | exact ih (x + 1) _ _ _ _ _ _ (by omega) (by omega) (by rw [sf2, if_neg (by rw [c_139, c_159]; simp; omega), ← hst, hM]) (by omega) hm9
                                | exact ih (x + 1) _ _ _ _ _ _ (by omega) (by omega) (by rw [sf2, if_pos (Or.inr (Or.inl c_139)), ← hst]) (by omega) hm9
                                | exact ih (x + 1) _ _ _ _ _ _ (by omega) (by omega) (by rw [sf2, if_pos (Or.inr (Or.inr c_159)), ← hst]) (by omega) hm9
                            · refine a_aloadn_0 (pc := 247) dX12_stubs_247 ?_
                              refine cv_X12_232 (pc := 248) rfl dX12_stubs_248 hm9.2.2.1 (Nat.le_of_ble_eq_true rfl) ?_
                              refine m_darkMany (by omega) hz hm9 hv9 ?_
                              refine a_topi (nI (dkN F n_tt (add12 (add12 v a) x))) rfl ?_
                              refine a_iload_6 (pc := 251) dX12_stubs_251 ?_
                              refine n_icmp_ge (tgt := 297) dX12_stubs_253 (by decide) (by omega) (by omega) (fun c_253 => ?_) (fun c_253 => ?_)
                              · have hM : stS F n_tt (add12 (add12 v a) x) (nI (36 * a + x)) (ch, dk, rm) = (ch, dk, rm) := if_neg (by show ¬ (_ < ch ∨ (_ = ch ∧ _ < dk)); omega)
                                refine a_iinc_8 (pc := 297) (v := nI (x + 1)) dX12_stubs_297 (nI_add _ _) (by decide) (by first | rfl | trivial) ?_
                                refine a_goto (pc := 300) (tgt := 106) dX12_stubs_300 (by decide) ?_
                                first
                                  | exact ih (x + 1) _ _ _ _ _ _ (by omega) (by omega) (by rw [sf2, if_neg (by rw [c_139, c_159]; simp; omega), ← hst, hM]) (by omega) hm9
                                  | exact ih (x + 1) _ _ _ _ _ _ (by omega) (by omega) (by rw [sf2, if_pos (Or.inr (Or.inl c_139)), ← hst]) (by omega) hm9
                                  | exact ih (x + 1) _ _ _ _ _ _ (by omega) (by omega) (by rw [sf2, if_pos (Or.inr (Or.inr c_159)), ← hst]) (by omega) hm9
                              · have hM : stS F n_tt (add12 (add12 v a) x) (nI (36 * a + x)) (ch, dk, rm) = (chN F n_tt (add12 (add12 v a) x), dkN F n_tt (add12 (add12 v a) x), (nI (36 * a + x))) := if_pos (Or.inr ⟨c_244, by show _ < dk; omega⟩)
                                refine a_aloadn_0 (pc := 256) dX12_stubs_256 ?_
                                refine cv_X12_235 (pc := 257) rfl dX12_stubs_257 hm9.2.2.1 (Nat.le_of_ble_eq_true rfl) ?_
                                refine m_darkChildren (by omega) hz hm9 hv9 ?_
                                refine a_topi (nI (chN F n_tt (add12 (add12 v a) x))) rfl ?_
                                refine a_istore_5 (pc := 260) dX12_stubs_260 (by decide) (by first | rfl | trivial) ?_
                                refine a_aloadn_0 (pc := 262) dX12_stubs_262 ?_
                                refine cv_X12_232 (pc := 263) rfl dX12_stubs_263 hm9.2.2.1 (Nat.le_of_ble_eq_true rfl) ?_
                                refine m_darkMany (by omega) hz hm9 hv9 ?_
                                refine a_topi (nI (dkN F n_tt (add12 (add12 v a) x))) rfl ?_
                                refine a_istore_6 (pc := 266) dX12_stubs_266 (by decide) (by first | rfl | trivial) ?_
                                refine a_iloadn_1 (pc := 268) dX12_stubs_268 ?_
                                refine n_if_ne (tgt := 277) dX12_stubs_269 (by decide) (by decide) (fun c_269 => ?_) (fun c_269 => by omega)
                                refine a_iloadn_1 (pc := 277) dX12_stubs_277 ?_
                                refine a_iconst (pc := 278) (v := nI 1) dX12_stubs_278 (by decide) ?_
                                refine n_icmp_ne (tgt := 287) dX12_stubs_279 (by decide) (by decide) (by decide) (fun c_279 => ?_) (fun c_279 => by omega)
                                refine a_bipush (pc := 287) (v := nI 36) dX12_stubs_287 (by decide) ?_
                                refine a_iload_7 (pc := 289) dX12_stubs_289 ?_
                                refine n_imul dX12_stubs_291 ?_
                                refine a_iload_8 (pc := 292) dX12_stubs_292 ?_
                                refine n_iadd dX12_stubs_294 ?_
                                refine a_istore_4 (pc := 295) dX12_stubs_295 (by decide) (by first | rfl | trivial) ?_
                                refine a_iinc_8 (pc := 297) (v := nI (x + 1)) dX12_stubs_297 (nI_add _ _) (by decide) (by first | rfl | trivial) ?_
                                refine a_goto (pc := 300) (tgt := 106) dX12_stubs_300 (by decide) ?_
                                first
                                  | exact ih (x + 1) _ _ _ _ _ _ (by omega) (by omega) (by rw [sf2, if_neg (by rw [c_139, c_159]; simp; omega), ← hst, hM]) (by omega) hm9
                                  | exact ih (x + 1) _ _ _ _ _ _ (by omega) (by omega) (by rw [sf2, if_pos (Or.inr (Or.inl c_139)), ← hst]) (by omega) hm9
                                  | exact ih (x + 1) _ _ _ _ _ _ (by omega) (by omega) (by rw [sf2, if_pos (Or.inr (Or.inr c_159)), ← hst]) (by omega) hm9
                exact li 38 (a + 1) _ _ _ _ _ _ (by omega) (by omega) (by rw [sf2_a F n_tt v a S1 (a + 1) (Nat.le_refl _)]; exact hst) (by omega) hm1
          exact la 38 0 _ _ _ _ _ _ (by omega) (by omega) rfl (by omega) hm
      · refine a_iconst (pc := 36) (v := (-1)) dX12_stubs_36 (by decide) ?_
        exact a_iret (pc := 37) dX12_stubs_37 rfl (zf hz) (hk _ _ _ _ (by simp [spStubs, c_9, i_k, c_21, i_tt, c_33]) hm)
