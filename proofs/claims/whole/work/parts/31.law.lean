theorem oI_some {j : Nat} (h : j < 2147483648) : ¬ oI (some j) = (-1) := by
  intro q
  have h1 : (nI j).toInt = (-1 : Int32).toInt := by rw [show nI j = (-1 : Int32) from q]
  rw [nI_toInt h] at h1
  have : (-1 : Int32).toInt = -1 := by decide
  omega
set_option maxRecDepth 100000 in
set_option maxHeartbeats 4000000 in
theorem x_workOut {G : Cx} {d t : Nat} {x : Tx} {vf0 : Nat → Int32} {n0 n1 n2 n3 n4 n5 : Int32} {h : List va_E} {Q : Option Value → List va_E → Prop} (hd : 2 ≤ d) (hz : gz G = false) (ht : textAt G h t x vf0) (k : ∀ vf : Nat → Int32, (∀ i, 6 ≤ i → i < tP x → tS x i = 48 → vf i = tV x i) → Q (some (.int (evalT x n0 n1 n2 n3 n4 n5))) (h.set (t + 4) (arr G 126 vf))) : AM G yX4_workOut cX4_workOut 8 (some .int) d 0 0 [.ref (gB G + t), .int n0, .int n1, .int n2, .int n3, .int n4, .int n5] h Q := by
  obtain ⟨d, rfl, he⟩ := dpos hd
  obtain ⟨q0, q1, q2, q3, q4, q5, q6, ok, hnv⟩ := id ht
  obtain ⟨v0, hv0⟩ : ∃ v0 : Nat → Int32, v0 = upd (upd (upd (upd (upd (upd vf0 0 n0) 1 n1) 2 n2) 3 n3) 4 n4) 5 n5 := ⟨_, rfl⟩
  have hag : ∀ i, i < 6 ∨ (i < tP x ∧ tS x i = 48) → v0 i = nmV x n0 n1 n2 n3 n4 n5 i := by
    intro i hi
    rw [hv0]
    rcases (show i = 0 ∨ i = 1 ∨ i = 2 ∨ i = 3 ∨ i = 4 ∨ i = 5 ∨ 6 ≤ i by omega) with rfl | rfl | rfl | rfl | rfl | rfl | h6
    · rfl
    · rfl
    · rfl
    · rfl
    · rfl
    · rfl
    · obtain ⟨a1, a2⟩ := hi.resolve_left (by omega)
      have e1 : nmV x n0 n1 n2 n3 n4 n5 i = tV x i := by
        unfold nmV
        split <;> first | omega | rfl
      rw [e1, ← hnv i h6 a1 a2]
      simp only [upd]
      rw [if_neg (by omega), if_neg (by omega), if_neg (by omega), if_neg (by omega), if_neg (by omega), if_neg (by omega)]
  have hev : linT x (runT x v0 (tP x - 6)) 0 (tN x) = evalT x n0 n1 n2 n3 n4 n5 := by
    unfold evalT
    refine linT_agree x _ _ (fun i hi => ?_) ok _ 0 (by omega)
    exact runT_agree x v0 _ hag ok (tP x - 6) (by have := ok.1; omega) i (Or.inl (by have := ok.1; omega))
  have hnum : ∀ i, 6 ≤ i → i < tP x → tS x i = 48 → runT x v0 (tP x - 6) i = tV x i := by
    intro i h6 h7 h8
    rw [runT_num x v0 _ i h6 h8, hag i (Or.inr ⟨h7, h8⟩)]
    unfold nmV
    split <;> first | omega | rfl
  have okP := ok.1
  have okP2 := ok.2.1
  have okN := ok.2.2.1
  have k := fun (r : Int32) (vf : Nat → Int32) (e : r = linT x (runT x v0 (tP x - 6)) 0 (tN x)) (hn : ∀ i, 6 ≤ i → i < tP x → tS x i = 48 → vf i = tV x i) => (show Q (some (.int r)) (h.set (t + 4) (arr G 126 vf)) from by rw [e, hev]; exact k vf hn)
  have hsg : ∀ i, 6 ≤ i → i < tP x → tS x i < 2147483648 := fun i a1 a2 => by
    rcases ok.2.2.2.1 i a1 a2 with e | ⟨e, -⟩
    · omega
    · simp at e; omega
  have loop2 : ∀ (n i : Nat) (vf : Nat → Int32), i + n = tN x → linT x (runT x v0 (tP x - 6)) 0 (tN x) = linT x (runT x v0 (tP x - 6)) i n → vf = runT x v0 (tP x - 6) → AW G yX4_workOut cX4_workOut 8 (some .int) (rmx (d + 1) 0 0) (ZQ G 0 0 (h.length + 0) Q) 0 0 120 [some (.ref (gB G + t)), some (.int n0), some (.int n1), some (.int n2), some (.int n3), some (.int n4), some (.int n5), some (.int (nI i))] [] (h.set (t + 4) (arr G 126 vf)) := by
    intro n
    induction n with
    | zero =>
      intro i vf hi hl hvf
      have k2 := k (linT x vf 0 (tN x)) vf (by rw [hvf]) (by rw [hvf]; exact hnum)
      rw [← hvf] at hl
      refine a_iload_7 (pc := 120) dX4_workOut_120 ?_
      refine a_aloadn_0 (pc := 122) dX4_workOut_122 ?_
      refine gf_X4_34 (pc := 123) rfl dX4_workOut_123 (by first | assumption | (repeat first | assumption | apply hs_eq | refine hs_ne (by omega) ?_)) ?_
      refine a_icmp_ge (pc := 126) (tgt := 174) dX4_workOut_126 (by decide) (fun c_126 => ?_) (fun c_126 => absurd (nI_le (by omega) (by omega)) c_126)
      refine a_iconst (pc := 174) (v := nI 0) dX4_workOut_174 (by decide) ?_
      exact a_iret (pc := 175) dX4_workOut_175 rfl (zf hz) (by rw [hl, linT] at k2; exact k2)
    | succ n ih =>
      intro i vf hi hl hvf
      have ih := fun (i : Nat) (a1 : i + n = tN x) (a2 : linT x (runT x v0 (tP x - 6)) 0 (tN x) = linT x (runT x v0 (tP x - 6)) i n) => ih i vf a1 a2 hvf
      rw [← hvf] at hl ih
      have k2 := k (linT x vf 0 (tN x)) vf (by rw [hvf]) (by rw [hvf]; exact hnum)
      obtain ⟨h1, h2⟩ := ok.2.2.2.2 i (by omega)
      refine a_iload_7 (pc := 120) dX4_workOut_120 ?_
      refine a_aloadn_0 (pc := 122) dX4_workOut_122 ?_
      refine gf_X4_34 (pc := 123) rfl dX4_workOut_123 (by first | assumption | (repeat first | assumption | apply hs_eq | refine hs_ne (by omega) ?_)) ?_
      refine a_icmp_ge (pc := 126) (tgt := 174) dX4_workOut_126 (by decide) (fun c_126 => absurd c_126 (fun q => by have := (nI_leI (by omega) (by omega)).mp q; omega)) (fun c_126 => ?_)
      refine a_aloadn_0 (pc := 129) dX4_workOut_129 ?_
      refine gf_X4_24 (pc := 130) rfl dX4_workOut_130 (by first | assumption | (repeat first | assumption | apply hs_eq | refine hs_ne (by omega) ?_)) ?_
      refine a_iload_7 (pc := 133) dX4_workOut_133 ?_
      refine b_iald (pc := 135) i dX4_workOut_135 (by first | assumption | exact hs_eq q4 | exact hs_ne (by omega) (by assumption)) rfl (by omega) (by decide) ?_
      refine a_iconst (pc := 136) (v := (-1)) dX4_workOut_136 (by decide) ?_
      refine a_icmp_eq (pc := 137) (tgt := 155) dX4_workOut_137 (by decide) (fun c_137 => ?_) (fun c_137 => ?_)
      · have hf : tF x i = none := by
          cases hf : tF x i with
          | none => rfl
          | some j => rw [hf] at c_137; exact absurd c_137 (oI_some (by have := h2 j hf; omega))
        refine a_aloadn_0 (pc := 155) dX4_workOut_155 ?_
        refine gf_X4_21 (pc := 156) rfl dX4_workOut_156 (by first | assumption | (repeat first | assumption | apply hs_eq | refine hs_ne (by omega) ?_)) ?_
        refine a_aloadn_0 (pc := 159) dX4_workOut_159 ?_
        refine gf_X4_27 (pc := 160) rfl dX4_workOut_160 (by first | assumption | (repeat first | assumption | apply hs_eq | refine hs_ne (by omega) ?_)) ?_
        refine a_iload_7 (pc := 163) dX4_workOut_163 ?_
        refine b_iald (pc := 165) i dX4_workOut_165 (by first | assumption | exact hs_eq q4 | exact hs_ne (by omega) (by assumption)) rfl (by omega) (by decide) ?_
        refine b_iald (pc := 166) (tD x i) dX4_workOut_166 (by first | assumption | exact hs_eq q4 | exact hs_ne (by omega) (by assumption)) rfl (by omega) (by decide) ?_
        exact a_iret (pc := 167) dX4_workOut_167 rfl (zf hz) (by rw [hl, linT, hf] at k2; first | exact k2 | (dsimp only at k2; rw [if_neg c_152] at k2; exact k2))
      · obtain ⟨j, hf⟩ : ∃ j, tF x i = some j := by
          cases hf : tF x i with
          | none => rw [hf] at c_137; exact absurd rfl c_137
          | some j => exact ⟨j, rfl⟩
        have hj := h2 j hf
        refine a_aloadn_0 (pc := 140) dX4_workOut_140 ?_
        refine gf_X4_21 (pc := 141) rfl dX4_workOut_141 (by first | assumption | (repeat first | assumption | apply hs_eq | refine hs_ne (by omega) ?_)) ?_
        refine a_aloadn_0 (pc := 144) dX4_workOut_144 ?_
        refine gf_X4_24 (pc := 145) rfl dX4_workOut_145 (by first | assumption | (repeat first | assumption | apply hs_eq | refine hs_ne (by omega) ?_)) ?_
        refine a_iload_7 (pc := 148) dX4_workOut_148 ?_
        refine b_iald (pc := 150) i dX4_workOut_150 (by first | assumption | exact hs_eq q4 | exact hs_ne (by omega) (by assumption)) rfl (by omega) (by decide) ?_
        refine a_topi (nI j) (by rw [hf]; rfl) ?_
        refine b_iald (pc := 151) j dX4_workOut_151 (by first | assumption | exact hs_eq q4 | exact hs_ne (by omega) (by assumption)) rfl (by omega) (by decide) ?_
        refine a_if_eq (pc := 152) (tgt := 168) dX4_workOut_152 (by decide) (fun c_152 => ?_) (fun c_152 => ?_)
        · refine a_iinc_7 (pc := 168) (v := nI (i + 1)) dX4_workOut_168 (nI_1 _) (by decide) (by first | rfl | trivial) ?_
          refine a_goto (pc := 171) (tgt := 120) dX4_workOut_171 (by decide) ?_
          exact ih (i + 1) (by omega) (by rw [hl, linT, hf]; dsimp only; rw [if_pos c_152])
        · refine a_aloadn_0 (pc := 155) dX4_workOut_155 ?_
          refine gf_X4_21 (pc := 156) rfl dX4_workOut_156 (by first | assumption | (repeat first | assumption | apply hs_eq | refine hs_ne (by omega) ?_)) ?_
          refine a_aloadn_0 (pc := 159) dX4_workOut_159 ?_
          refine gf_X4_27 (pc := 160) rfl dX4_workOut_160 (by first | assumption | (repeat first | assumption | apply hs_eq | refine hs_ne (by omega) ?_)) ?_
          refine a_iload_7 (pc := 163) dX4_workOut_163 ?_
          refine b_iald (pc := 165) i dX4_workOut_165 (by first | assumption | exact hs_eq q4 | exact hs_ne (by omega) (by assumption)) rfl (by omega) (by decide) ?_
          refine b_iald (pc := 166) (tD x i) dX4_workOut_166 (by first | assumption | exact hs_eq q4 | exact hs_ne (by omega) (by assumption)) rfl (by omega) (by decide) ?_
          exact a_iret (pc := 167) dX4_workOut_167 rfl (zf hz) (by rw [hl, linT, hf] at k2; first | exact k2 | (dsimp only at k2; rw [if_neg c_152] at k2; exact k2))
  have loop1 : ∀ (n i : Nat) (vf : Nat → Int32), i + n = tP x → 6 ≤ i → vf = runT x v0 (i - 6) → AW G yX4_workOut cX4_workOut 8 (some .int) (rmx (d + 1) 0 0) (ZQ G 0 0 (h.length + 0) Q) 0 0 49 [some (.ref (gB G + t)), some (.int n0), some (.int n1), some (.int n2), some (.int n3), some (.int n4), some (.int n5), some (.int (nI i))] [] (h.set (t + 4) (arr G 126 vf)) := by
    intro n
    induction n with
    | zero =>
      intro i vf hi h6 hvf
      refine a_iload_7 (pc := 49) dX4_workOut_49 ?_
      refine a_aloadn_0 (pc := 51) dX4_workOut_51 ?_
      refine gf_X4_30 (pc := 52) rfl dX4_workOut_52 (by first | assumption | (repeat first | assumption | apply hs_eq | refine hs_ne (by omega) ?_)) ?_
      refine a_icmp_ge (pc := 55) (tgt := 117) dX4_workOut_55 (by decide) (fun c_55 => ?_) (fun c_55 => absurd (nI_le (by omega) (by omega)) c_55)
      refine a_iconst (pc := 117) (v := nI 0) dX4_workOut_117 (by decide) ?_
      refine a_istore_7 (pc := 118) dX4_workOut_118 (by decide) (by first | rfl | trivial) ?_
      exact loop2 (tN x) 0 vf (by omega) rfl (by rw [hvf, show i = tP x by omega])
    | succ n ih =>
      intro i vf hi h6 hvf
      have hs9 := hsg i h6 (by omega)
      refine a_iload_7 (pc := 49) dX4_workOut_49 ?_
      refine a_aloadn_0 (pc := 51) dX4_workOut_51 ?_
      refine gf_X4_30 (pc := 52) rfl dX4_workOut_52 (by first | assumption | (repeat first | assumption | apply hs_eq | refine hs_ne (by omega) ?_)) ?_
      refine a_icmp_ge (pc := 55) (tgt := 117) dX4_workOut_55 (by decide) (fun c_55 => absurd c_55 (fun q => by have := (nI_leI (by omega) (by omega)).mp q; omega)) (fun c_55 => ?_)
      refine a_aloadn_0 (pc := 58) dX4_workOut_58 ?_
      refine gf_X4_11 (pc := 59) rfl dX4_workOut_59 (by first | assumption | (repeat first | assumption | apply hs_eq | refine hs_ne (by omega) ?_)) ?_
      refine a_iload_7 (pc := 62) dX4_workOut_62 ?_
      refine b_iald (pc := 64) i dX4_workOut_64 (by first | assumption | exact hs_eq q4 | exact hs_ne (by omega) (by assumption)) rfl (by omega) (by decide) ?_
      refine a_bipush (pc := 65) (v := nI 48) dX4_workOut_65 (by decide) ?_
      refine a_icmp_eq (pc := 67) (tgt := 111) dX4_workOut_67 (by decide) (fun c_67 => ?_) (fun c_67 => ?_)
      · have hs48 : tS x i = 48 := (nI_eq hs9 (by decide)).mp c_67
        refine a_iinc_7 (pc := 111) (v := nI (i + 1)) dX4_workOut_111 (nI_1 _) (by decide) (by first | rfl | trivial) ?_
        refine a_goto (pc := 114) (tgt := 49) dX4_workOut_114 (by decide) ?_
        first | exact ih (i + 1) _ (by omega) (by omega) (by rw [show i + 1 - 6 = (i - 6) + 1 by omega, runT, show 6 + (i - 6) = i by omega, if_pos hs48]; exact hvf) | exact ih (i + 1) _ (by omega) (by omega) (by rw [show i + 1 - 6 = (i - 6) + 1 by omega, runT, show 6 + (i - 6) = i by omega, if_neg hs48, hvf])
      · have hs48 : ¬ tS x i = 48 := fun q => c_67 (by rw [q])
        obtain ⟨hop, hL, hRr⟩ := (ok.2.2.2.1 i h6 (by omega)).resolve_left hs48
        refine a_aloadn_0 (pc := 70) dX4_workOut_70 ?_
        refine gf_X4_21 (pc := 71) rfl dX4_workOut_71 (by first | assumption | (repeat first | assumption | apply hs_eq | refine hs_ne (by omega) ?_)) ?_
        refine a_iload_7 (pc := 74) dX4_workOut_74 ?_
        refine a_aloadn_0 (pc := 76) dX4_workOut_76 ?_
        refine gf_X4_11 (pc := 77) rfl dX4_workOut_77 (by first | assumption | (repeat first | assumption | apply hs_eq | refine hs_ne (by omega) ?_)) ?_
        refine a_iload_7 (pc := 80) dX4_workOut_80 ?_
        refine b_iald (pc := 82) i dX4_workOut_82 (by first | assumption | exact hs_eq q4 | exact hs_ne (by omega) (by assumption)) rfl (by omega) (by decide) ?_
        refine a_aloadn_0 (pc := 83) dX4_workOut_83 ?_
        refine gf_X4_21 (pc := 84) rfl dX4_workOut_84 (by first | assumption | (repeat first | assumption | apply hs_eq | refine hs_ne (by omega) ?_)) ?_
        refine a_aloadn_0 (pc := 87) dX4_workOut_87 ?_
        refine gf_X4_15 (pc := 88) rfl dX4_workOut_88 (by first | assumption | (repeat first | assumption | apply hs_eq | refine hs_ne (by omega) ?_)) ?_
        refine a_iload_7 (pc := 91) dX4_workOut_91 ?_
        refine b_iald (pc := 93) i dX4_workOut_93 (by first | assumption | exact hs_eq q4 | exact hs_ne (by omega) (by assumption)) rfl (by omega) (by decide) ?_
        refine b_iald (pc := 94) (tL x i) dX4_workOut_94 (by first | assumption | exact hs_eq q4 | exact hs_ne (by omega) (by assumption)) rfl (by omega) (by decide) ?_
        refine a_aloadn_0 (pc := 95) dX4_workOut_95 ?_
        refine gf_X4_21 (pc := 96) rfl dX4_workOut_96 (by first | assumption | (repeat first | assumption | apply hs_eq | refine hs_ne (by omega) ?_)) ?_
        refine a_aloadn_0 (pc := 99) dX4_workOut_99 ?_
        refine gf_X4_18 (pc := 100) rfl dX4_workOut_100 (by first | assumption | (repeat first | assumption | apply hs_eq | refine hs_ne (by omega) ?_)) ?_
        refine a_iload_7 (pc := 103) dX4_workOut_103 ?_
        refine b_iald (pc := 105) i dX4_workOut_105 (by first | assumption | exact hs_eq q4 | exact hs_ne (by omega) (by assumption)) rfl (by omega) (by decide) ?_
        refine b_iald (pc := 106) (tR x i) dX4_workOut_106 (by first | assumption | exact hs_eq q4 | exact hs_ne (by omega) (by assumption)) rfl (by omega) (by decide) ?_
        refine cs_X4_41 (pc := 107) rfl dX4_workOut_107 (Nat.le_of_ble_eq_true rfl) ?_
        refine x_joined he hz hop ?_
        refine b_iast (pc := 110) i dX4_workOut_110 (by first | assumption | exact hs_eq q4 | exact hs_ne (by omega) (by assumption)) rfl (by omega) (by decide) ?_
        refine a_h set_set ?_
        refine a_iinc_7 (pc := 111) (v := nI (i + 1)) dX4_workOut_111 (nI_1 _) (by decide) (by first | rfl | trivial) ?_
        refine a_goto (pc := 114) (tgt := 49) dX4_workOut_114 (by decide) ?_
        first | exact ih (i + 1) _ (by omega) (by omega) (by rw [show i + 1 - 6 = (i - 6) + 1 by omega, runT, show 6 + (i - 6) = i by omega, if_pos hs48]; exact hvf) | exact ih (i + 1) _ (by omega) (by omega) (by rw [show i + 1 - 6 = (i - 6) + 1 by omega, runT, show 6 + (i - 6) = i by omega, if_neg hs48, hvf])
  refine AM.of [some (.ref (gB G + t)), some (.int n0), some (.int n1), some (.int n2), some (.int n3), some (.int n4), some (.int n5), none] pnX4 (Nat.le_of_ble_eq_true rfl) (by simp [lsub, lvI, Value.category]) ?_
  refine a_aloadn_0 (pc := 0) dX4_workOut_0 ?_
  refine gf_X4_21 (pc := 1) rfl dX4_workOut_1 (by first | assumption | (repeat first | assumption | apply hs_eq | refine hs_ne (by omega) ?_)) ?_
  refine a_iconst (pc := 4) (v := nI 0) dX4_workOut_4 (by decide) ?_
  refine a_iloadn_1 (pc := 5) dX4_workOut_5 ?_
  refine b_iast (pc := 6) 0 dX4_workOut_6 (by first | assumption | exact hs_eq q4 | exact hs_ne (by omega) (by assumption)) rfl (by decide) (by decide) ?_
  refine a_aloadn_0 (pc := 7) dX4_workOut_7 ?_
  refine gf_X4_21 (pc := 8) rfl dX4_workOut_8 (by first | assumption | (repeat first | assumption | apply hs_eq | refine hs_ne (by omega) ?_)) ?_
  refine a_iconst (pc := 11) (v := nI 1) dX4_workOut_11 (by decide) ?_
  refine a_iloadn_2 (pc := 12) dX4_workOut_12 ?_
  refine b_iast (pc := 13) 1 dX4_workOut_13 (by first | assumption | exact hs_eq q4 | exact hs_ne (by omega) (by assumption)) rfl (by decide) (by decide) ?_
  refine a_h set_set ?_
  refine a_aloadn_0 (pc := 14) dX4_workOut_14 ?_
  refine gf_X4_21 (pc := 15) rfl dX4_workOut_15 (by first | assumption | (repeat first | assumption | apply hs_eq | refine hs_ne (by omega) ?_)) ?_
  refine a_iconst (pc := 18) (v := nI 2) dX4_workOut_18 (by decide) ?_
  refine a_iloadn_3 (pc := 19) dX4_workOut_19 ?_
  refine b_iast (pc := 20) 2 dX4_workOut_20 (by first | assumption | exact hs_eq q4 | exact hs_ne (by omega) (by assumption)) rfl (by decide) (by decide) ?_
  refine a_h set_set ?_
  refine a_aloadn_0 (pc := 21) dX4_workOut_21 ?_
  refine gf_X4_21 (pc := 22) rfl dX4_workOut_22 (by first | assumption | (repeat first | assumption | apply hs_eq | refine hs_ne (by omega) ?_)) ?_
  refine a_iconst (pc := 25) (v := nI 3) dX4_workOut_25 (by decide) ?_
  refine a_iload_4 (pc := 26) dX4_workOut_26 ?_
  refine b_iast (pc := 28) 3 dX4_workOut_28 (by first | assumption | exact hs_eq q4 | exact hs_ne (by omega) (by assumption)) rfl (by decide) (by decide) ?_
  refine a_h set_set ?_
  refine a_aloadn_0 (pc := 29) dX4_workOut_29 ?_
  refine gf_X4_21 (pc := 30) rfl dX4_workOut_30 (by first | assumption | (repeat first | assumption | apply hs_eq | refine hs_ne (by omega) ?_)) ?_
  refine a_iconst (pc := 33) (v := nI 4) dX4_workOut_33 (by decide) ?_
  refine a_iload_5 (pc := 34) dX4_workOut_34 ?_
  refine b_iast (pc := 36) 4 dX4_workOut_36 (by first | assumption | exact hs_eq q4 | exact hs_ne (by omega) (by assumption)) rfl (by decide) (by decide) ?_
  refine a_h set_set ?_
  refine a_aloadn_0 (pc := 37) dX4_workOut_37 ?_
  refine gf_X4_21 (pc := 38) rfl dX4_workOut_38 (by first | assumption | (repeat first | assumption | apply hs_eq | refine hs_ne (by omega) ?_)) ?_
  refine a_iconst (pc := 41) (v := nI 5) dX4_workOut_41 (by decide) ?_
  refine a_iload_6 (pc := 42) dX4_workOut_42 ?_
  refine b_iast (pc := 44) 5 dX4_workOut_44 (by first | assumption | exact hs_eq q4 | exact hs_ne (by omega) (by assumption)) rfl (by decide) (by decide) ?_
  refine a_h set_set ?_
  refine a_bipush (pc := 45) (v := nI 6) dX4_workOut_45 (by decide) ?_
  refine a_istore_7 (pc := 47) dX4_workOut_47 (by decide) (by first | rfl | trivial) ?_
  exact loop1 (tP x - 6) 6 _ (by omega) (by omega) (by rw [Nat.sub_self, runT, hv0])
