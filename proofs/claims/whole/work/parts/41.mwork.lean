def WO (n : Nat) (r : Nat ⊕ An) (nms : Nat → Nat) (p1 : MP) (v : Int32) : Prop := match r with
  | .inl f => p1.2.2.2.1 = nI f ∧ f ≤ n
  | .inr A => p1.2.2.2.1 = -1 ∧ v = (A (fun j => nI (nms j))).getD 0
set_option maxRecDepth 100000 in
set_option maxHeartbeats 4000000 in
theorem m_workOut {G : Cx} {d : Nat} {h h0 : List va_E} {b : MB} {p : MP} {t : MT} {o : MO} {bs : Int32} {n : Nat} {c : Nat → Nat} {Q : Option Value → List va_E → Prop} (hd : 60 ≤ d) (hz : gz G = false) (hb : BYT b bs n c) (hm : MS G h0 h (b, p, t, o)) (k : ∀ h1 v p1, MS G h0 h1 (b, p1, t, o) → WO n (txt c n) p.2.2.2.2.2 p1 v → Q (some (.int v)) h1) : AM G yX12_workOut cX12_workOut 8 (some .int) d 0 0 [.ref (gB G + 80), .int bs, .int (nI n)] h Q := by
  obtain ⟨d, rfl, he⟩ := dpos hd
  refine AM.of [some (.ref (gB G + 80)), some (.int (bs)), some (.int (nI (n))), none, none, none, none, none] pnX12 (Nat.le_of_ble_eq_true rfl) (by simp [lsub, lvI, Value.category]) ?_
  obtain ⟨hn, hc0, h255, -⟩ := id hb
  have hT := txt_eq hc0 hn
  obtain ⟨r, hr⟩ : ∃ r, r = txt c n := ⟨_, rfl⟩
  rw [← hr] at k hT
  obtain ⟨nms, hnms⟩ : ∃ x, x = p.2.2.2.2.2 := ⟨_, rfl⟩
  rw [← hnms] at k
  have I0 := fun b t o bs nms (hb : BYT b bs n c) => (mg_all (G := G) (h0 := h0) (t := t) (o := o) (nms := nms) hz hb 2000).1 2000 (Nat.le_refl _)
  have f96 : ∀ (h1 : List va_E) (f at1 op1 : Nat) (g : Bool) (y : Int32), f ≤ n → at1 < 1000 → r = .inl f → MS G h0 h1 (b, (bs, at1, n, (nI f), op1, nms), t, o) → AW G yX12_workOut cX12_workOut 8 (some .int) (rmx (d + 1) 0 0) (ZQ G 0 0 (h.length + 0) Q) 0 0 96 [some (.ref (gB G + 80)), some (.int (bs)), some (.int (nI (n))), some (.int (bI (g))), some (.int (y)), none, none, none] [] h1 := by
    intro h1 f at1 op1 g y hf1 ha1 hr1 hm1
    subst hr1
    refine a_aloadn_0 (pc := 96) dX12_workOut_96 ?_
    refine a_bipush (pc := 97) (v := nI 59) dX12_workOut_97 (by decide) ?_
    refine cv_X12_157 (pc := 99) rfl dX12_workOut_99 hm1.2.2.1 (Nat.le_of_ble_eq_true rfl) ?_
    refine m_takesG (by omega) hz hb (by omega) hm1 (g := f) (by omega) ?_
    refine a_istore_5 (pc := 102) dX12_workOut_102 (by decide) (by first | rfl | trivial) ?_
    refine a_goto (pc := 104) (tgt := 33) dX12_workOut_104 (by decide) ?_
    refine a_iload_5 (pc := 33) dX12_workOut_33 ?_
    refine b_if_eq (pc := 35) (tgt := 107) dX12_workOut_35 (by decide) (fun c_35 => ?_) (fun c_35 => by cases c_35)
    refine a_aloadn_0 (pc := 107) dX12_workOut_107 ?_
    refine mg_147 (x := nI (f)) hm1 rfl dX12_workOut_108 rfl ?_
    refine n_if_ge (tgt := 130) dX12_workOut_111 (by decide) (by omega) ?_
    refine a_iload_4 (pc := 130) dX12_workOut_130 ?_
    exact a_iret (pc := 132) dX12_workOut_132 rfl (zf hz) (k _ _ _ hm1 ⟨rfl, hf1⟩)
  have lp : ∀ (j : Nat) (h1 : List va_E) (q0 : Nat) (A : An) (g : Bool) (y : Int32), q0 ≤ n → pl c n j q0 A = some r → MS G h0 h1 (b, (bs, q0, n, (-1), 0, nms), t, o) → g = (A (fun j => nI (nms j))).isSome → y = (A (fun j => nI (nms j))).getD 0 → AW G yX12_workOut cX12_workOut 8 (some .int) (rmx (d + 1) 0 0) (ZQ G 0 0 (h.length + 0) Q) 0 0 33 [some (.ref (gB G + 80)), some (.int (bs)), some (.int (nI (n))), some (.int (bI (g))), some (.int (y)), some (.int (bI (true))), none, none] [] h1 := by
    intro j
    induction j with
    | zero => intro h1 q0 A g y _ H; exact (pl_0 H).elim
    | succ j ih =>
      intro h1 q0 A g y hq0 H hm1 hg hy
      have t96 : ∀ (h1 : List va_E) (q : Nat) (A : An) (g : Bool) (y : Int32), q ≤ n → PN c n j q A r → MS G h0 h1 (b, (bs, q, n, (-1), 0, nms), t, o) → (g = (A (fun j => nI (nms j))).isSome ∧ y = (A (fun j => nI (nms j))).getD 0) → AW G yX12_workOut cX12_workOut 8 (some .int) (rmx (d + 1) 0 0) (ZQ G 0 0 (h.length + 0) Q) 0 0 96 [some (.ref (gB G + 80)), some (.int (bs)), some (.int (nI (n))), some (.int (bI (g))), some (.int (y)), none, none, none] [] h1 := by
        intro h1 q A g y hq H hm1 hgy
        obtain ⟨hg, hy⟩ := hgy
        rcases H with ⟨h59, H⟩ | ⟨h59, ⟨hqn, rfl⟩ | ⟨hqn, rfl⟩⟩
        · have hqn := ch_lt hc0 (show 0 < c q by omega)
          refine a_aloadn_0 (pc := 96) dX12_workOut_96 ?_
          refine a_bipush (pc := 97) (v := nI 59) dX12_workOut_97 (by decide) ?_
          refine cv_X12_157 (pc := 99) rfl dX12_workOut_99 hm1.2.2.1 (Nat.le_of_ble_eq_true rfl) ?_
          refine m_takes (by omega) hz hb (by omega) hm1 (by decide) (fun hx h6 hm6 => ?_) (fun hx => absurd h59 hx)
          refine a_istore_5 (pc := 102) dX12_workOut_102 (by decide) (by first | rfl | trivial) ?_
          refine a_goto (pc := 104) (tgt := 33) dX12_workOut_104 (by decide) ?_
          exact ih _ (q + 1) A g y (by omega) H hm6 hg hy
        · refine a_aloadn_0 (pc := 96) dX12_workOut_96 ?_
          refine a_bipush (pc := 97) (v := nI 59) dX12_workOut_97 (by decide) ?_
          refine cv_X12_157 (pc := 99) rfl dX12_workOut_99 hm1.2.2.1 (Nat.le_of_ble_eq_true rfl) ?_
          refine m_takes (by omega) hz hb (by omega) hm1 (by decide) (fun hx => absurd hx h59) (fun hx => ?_)
          refine a_istore_5 (pc := 102) dX12_workOut_102 (by decide) (by first | rfl | trivial) ?_
          refine a_goto (pc := 104) (tgt := 33) dX12_workOut_104 (by decide) ?_
          refine a_iload_5 (pc := 33) dX12_workOut_33 ?_
          refine b_if_eq (pc := 35) (tgt := 107) dX12_workOut_35 (by decide) (fun c_35 => ?_) (fun c_35 => by cases c_35)
          refine a_aloadn_0 (pc := 107) dX12_workOut_107 ?_
          refine mg_147 (x := (-1)) hm1 rfl dX12_workOut_108 rfl ?_
          refine a_if_ge (pc := 111) (tgt := 130) dX12_workOut_111 (by decide) (fun c_111 => absurd c_111 (by decide)) (fun c_111 => ?_)
          refine a_aloadn_0 (pc := 114) dX12_workOut_114 ?_
          refine mg_138 (x := q) hm1 rfl dX12_workOut_115 rfl ?_
          refine a_aloadn_0 (pc := 118) dX12_workOut_118 ?_
          refine mg_141 (x := n) hm1 rfl dX12_workOut_119 rfl ?_
          refine n_icmp_ge (tgt := 130) dX12_workOut_122 (by decide) (by omega) (by omega) (fun c_122 => by omega) (fun c_122 => ?_)
          refine a_aloadn_0 (pc := 125) dX12_workOut_125 ?_
          refine cv_X12_175 (pc := 126) rfl dX12_workOut_126 hm1.2.2.1 (Nat.le_of_ble_eq_true rfl) ?_
          refine m_wrong (by omega) hz hb (by omega) hm1 (fun h7 hm7 => ?_)
          exact a_iret (pc := 129) dX12_workOut_129 rfl (zf hz) (k _ _ _ hm7 ⟨rfl, hq⟩)
        · refine a_aloadn_0 (pc := 96) dX12_workOut_96 ?_
          refine a_bipush (pc := 97) (v := nI 59) dX12_workOut_97 (by decide) ?_
          refine cv_X12_157 (pc := 99) rfl dX12_workOut_99 hm1.2.2.1 (Nat.le_of_ble_eq_true rfl) ?_
          refine m_takes (by omega) hz hb (by omega) hm1 (by decide) (fun hx => absurd hx h59) (fun hx => ?_)
          refine a_istore_5 (pc := 102) dX12_workOut_102 (by decide) (by first | rfl | trivial) ?_
          refine a_goto (pc := 104) (tgt := 33) dX12_workOut_104 (by decide) ?_
          refine a_iload_5 (pc := 33) dX12_workOut_33 ?_
          refine b_if_eq (pc := 35) (tgt := 107) dX12_workOut_35 (by decide) (fun c_35 => ?_) (fun c_35 => by cases c_35)
          refine a_aloadn_0 (pc := 107) dX12_workOut_107 ?_
          refine mg_147 (x := (-1)) hm1 rfl dX12_workOut_108 rfl ?_
          refine a_if_ge (pc := 111) (tgt := 130) dX12_workOut_111 (by decide) (fun c_111 => absurd c_111 (by decide)) (fun c_111 => ?_)
          refine a_aloadn_0 (pc := 114) dX12_workOut_114 ?_
          refine mg_138 (x := q) hm1 rfl dX12_workOut_115 rfl ?_
          refine a_aloadn_0 (pc := 118) dX12_workOut_118 ?_
          refine mg_141 (x := n) hm1 rfl dX12_workOut_119 rfl ?_
          refine n_icmp_ge (tgt := 130) dX12_workOut_122 (by decide) (by omega) (by omega) (fun c_122 => ?_) (fun c_122 => by omega)
          refine a_iload_4 (pc := 130) dX12_workOut_130 ?_
          exact a_iret (pc := 132) dX12_workOut_132 rfl (zf hz) (k _ _ _ hm1 ⟨rfl, hy⟩)
      rcases pl_st H with ⟨f, hr1, rfl⟩ | ⟨q, e, hr1, h63, H⟩ | ⟨q, e, hr1, h63, f, hr2, rfl⟩ | ⟨q, e, hr1, h63, q2, e2, hr2, H⟩
      · refine a_iload_5 (pc := 33) dX12_workOut_33 ?_
        refine b_if_eq (pc := 35) (tgt := 107) dX12_workOut_35 (by decide) (fun c_35 => by cases c_35) (fun c_35 => ?_)
        refine a_aloadn_0 (pc := 38) dX12_workOut_38 ?_
        refine cv_X12_178 (pc := 39) rfl dX12_workOut_39 hm1.2.2.1 (Nat.le_of_ble_eq_true rfl) ?_
        refine I0 _ _ _ _ _ hb d _ q0 0 ez _ _ (by omega) (by omega) (by omega) hr1 hm1 (fun h2 v H9 => ?_)
        obtain ⟨at1, op1, ho1, ha1, hm_h2⟩ := H9
        have hf1 := (ps_pb c n hc0 _ _ _ _ _ _ hr1 (by omega) (by omega)).1
        refine a_istore_6 (pc := 42) dX12_workOut_42 (by decide) (by first | rfl | trivial) ?_
        refine a_iconst (pc := 44) (v := nI 1) dX12_workOut_44 (by decide) ?_
        refine a_istore_7 (pc := 45) dX12_workOut_45 (by decide) (by first | rfl | trivial) ?_
        refine a_aloadn_0 (pc := 47) dX12_workOut_47 ?_
        refine a_bipush (pc := 48) (v := nI 63) dX12_workOut_48 (by decide) ?_
        refine cv_X12_157 (pc := 50) rfl dX12_workOut_50 hm_h2.2.2.1 (Nat.le_of_ble_eq_true rfl) ?_
        refine m_takesG (by omega) hz hb (by omega) hm_h2 (g := f) (by omega) ?_
        refine b_if_eq (pc := 53) (tgt := 74) dX12_workOut_53 (by decide) (fun c_53 => ?_) (fun c_53 => by cases c_53)
        refine a_aloadn_0 (pc := 74) dX12_workOut_74 ?_
        refine mg_147 (x := nI (f)) hm_h2 rfl dX12_workOut_75 rfl ?_
        refine n_if_ge (tgt := 96) dX12_workOut_78 (by decide) (by omega) ?_
        refine a_ls (ls' := [some _, some _, some _, some _, some _, none, none, none, none]) ⟨rfl, rfl, rfl, rfl, rfl, trivial⟩ ?_
        exact f96 _ f at1 op1 g y hf1 ha1 rfl hm_h2
      · refine a_iload_5 (pc := 33) dX12_workOut_33 ?_
        refine b_if_eq (pc := 35) (tgt := 107) dX12_workOut_35 (by decide) (fun c_35 => by cases c_35) (fun c_35 => ?_)
        refine a_aloadn_0 (pc := 38) dX12_workOut_38 ?_
        refine cv_X12_178 (pc := 39) rfl dX12_workOut_39 hm1.2.2.1 (Nat.le_of_ble_eq_true rfl) ?_
        refine I0 _ _ _ _ _ hb d _ q0 0 ez _ _ (by omega) (by omega) (by omega) hr1 hm1 (fun h2 v H9 => ?_)
        obtain ⟨hm_h2, hv_h2⟩ := H9
        have hb_h2 := ps_pb c n hc0 _ _ _ _ _ _ hr1 (by omega) (by omega)
        have hq_h2 := hb_h2.1
        have hl_h2 := hb_h2.2.1
        refine a_istore_6 (pc := 42) dX12_workOut_42 (by decide) (by first | rfl | trivial) ?_
        refine a_iconst (pc := 44) (v := nI 1) dX12_workOut_44 (by decide) ?_
        refine a_istore_7 (pc := 45) dX12_workOut_45 (by decide) (by first | rfl | trivial) ?_
        refine a_aloadn_0 (pc := 47) dX12_workOut_47 ?_
        refine a_bipush (pc := 48) (v := nI 63) dX12_workOut_48 (by decide) ?_
        refine cv_X12_157 (pc := 50) rfl dX12_workOut_50 hm_h2.2.2.1 (Nat.le_of_ble_eq_true rfl) ?_
        refine m_takes (by omega) hz hb (by omega) hm_h2 (by decide) (fun hx => absurd hx h63) (fun hx => ?_)
        refine b_if_eq (pc := 53) (tgt := 74) dX12_workOut_53 (by decide) (fun c_53 => ?_) (fun c_53 => by cases c_53)
        refine a_aloadn_0 (pc := 74) dX12_workOut_74 ?_
        refine mg_147 (x := (-1)) hm_h2 rfl dX12_workOut_75 rfl ?_
        refine a_if_ge (pc := 78) (tgt := 96) dX12_workOut_78 (by decide) (fun c_78 => absurd c_78 (by decide)) (fun c_78 => ?_)
        refine a_iload_7 (pc := 81) dX12_workOut_81 ?_
        refine n_if_eq (tgt := 96) dX12_workOut_83 (by decide) (by decide) (fun c_83 => by omega) (fun c_83 => ?_)
        refine a_iloadn_3 (pc := 86) dX12_workOut_86 ?_
        refine b_if_ne (pc := 87) (tgt := 96) dX12_workOut_87 (by decide) (fun c_87 => ?_) (fun c_87 => ?_)
        · refine a_ls (ls' := [some _, some _, some _, some _, some _, none, none, none, none]) ⟨rfl, rfl, rfl, rfl, rfl, trivial⟩ ?_
          exact t96 _ _ _ g y hq_h2 H hm_h2 (ln_T1 hg hy c_87)
        · refine a_iconst (pc := 90) (v := nI 1) dX12_workOut_90 (by decide) ?_
          refine a_topi (bI true) (by decide) ?_
          refine a_istoren_3 (pc := 91) dX12_workOut_91 (by decide) (by first | rfl | trivial) ?_
          refine a_iload_6 (pc := 92) dX12_workOut_92 ?_
          refine a_istore_4 (pc := 94) dX12_workOut_94 (by decide) (by first | rfl | trivial) ?_
          refine a_ls (ls' := [some _, some _, some _, some _, some _, none, none, none, none]) ⟨rfl, rfl, rfl, rfl, rfl, trivial⟩ ?_
          exact t96 _ _ _ true v hq_h2 H hm_h2 (ln_T2 hg c_87 hv_h2)
      · refine a_iload_5 (pc := 33) dX12_workOut_33 ?_
        refine b_if_eq (pc := 35) (tgt := 107) dX12_workOut_35 (by decide) (fun c_35 => by cases c_35) (fun c_35 => ?_)
        refine a_aloadn_0 (pc := 38) dX12_workOut_38 ?_
        refine cv_X12_178 (pc := 39) rfl dX12_workOut_39 hm1.2.2.1 (Nat.le_of_ble_eq_true rfl) ?_
        refine I0 _ _ _ _ _ hb d _ q0 0 ez _ _ (by omega) (by omega) (by omega) hr1 hm1 (fun h2 v H9 => ?_)
        obtain ⟨hm_h2, hv_h2⟩ := H9
        have hb_h2 := ps_pb c n hc0 _ _ _ _ _ _ hr1 (by omega) (by omega)
        have hq_h2 := hb_h2.1
        have hl_h2 := hb_h2.2.1
        have hqn := ch_lt hc0 (show 0 < c q by omega)
        refine a_istore_6 (pc := 42) dX12_workOut_42 (by decide) (by first | rfl | trivial) ?_
        refine a_iconst (pc := 44) (v := nI 1) dX12_workOut_44 (by decide) ?_
        refine a_istore_7 (pc := 45) dX12_workOut_45 (by decide) (by first | rfl | trivial) ?_
        refine a_aloadn_0 (pc := 47) dX12_workOut_47 ?_
        refine a_bipush (pc := 48) (v := nI 63) dX12_workOut_48 (by decide) ?_
        refine cv_X12_157 (pc := 50) rfl dX12_workOut_50 hm_h2.2.2.1 (Nat.le_of_ble_eq_true rfl) ?_
        refine m_takes (by omega) hz hb (by omega) hm_h2 (by decide) (fun hx h6 hm6 => ?_) (fun hx => absurd h63 hx)
        refine b_if_eq (pc := 53) (tgt := 74) dX12_workOut_53 (by decide) (fun c_53 => by cases c_53) (fun c_53 => ?_)
        refine a_iload_6 (pc := 56) dX12_workOut_56 ?_
        refine a_if_eq (pc := 58) (tgt := 65) dX12_workOut_58 (by decide) (fun c_58 => ?_) (fun c_58 => ?_)
        · refine a_iconst (pc := 65) (v := nI 0) dX12_workOut_65 (by decide) ?_
          refine a_istore_7 (pc := 66) dX12_workOut_66 (by decide) (by first | rfl | trivial) ?_
          refine a_aloadn_0 (pc := 68) dX12_workOut_68 ?_
          refine cv_X12_178 (pc := 69) rfl dX12_workOut_69 hm6.2.2.1 (Nat.le_of_ble_eq_true rfl) ?_
          refine I0 _ _ _ _ _ hb d _ (q + 1) 0 ez _ _ (by omega) (by omega) (by omega) hr2 hm6 (fun h3 w H9 => ?_)
          obtain ⟨at1, op1, ho1, ha1, hm_h3⟩ := H9
          have hf1 := (ps_pb c n hc0 _ _ _ _ _ _ hr2 (by omega) (by omega)).1
          refine a_istore_6 (pc := 72) dX12_workOut_72 (by decide) (by first | rfl | trivial) ?_
          refine a_aloadn_0 (pc := 74) dX12_workOut_74 ?_
          refine mg_147 (x := nI (f)) hm_h3 rfl dX12_workOut_75 rfl ?_
          refine n_if_ge (tgt := 96) dX12_workOut_78 (by decide) (by omega) ?_
          refine a_ls (ls' := [some _, some _, some _, some _, some _, none, none, none, none]) ⟨rfl, rfl, rfl, rfl, rfl, trivial⟩ ?_
          exact f96 _ f at1 op1 g y hf1 ha1 rfl hm_h3
        · refine a_iconst (pc := 61) (v := nI 1) dX12_workOut_61 (by decide) ?_
          refine a_goto (pc := 62) (tgt := 66) dX12_workOut_62 (by decide) ?_
          refine a_istore_7 (pc := 66) dX12_workOut_66 (by decide) (by first | rfl | trivial) ?_
          refine a_aloadn_0 (pc := 68) dX12_workOut_68 ?_
          refine cv_X12_178 (pc := 69) rfl dX12_workOut_69 hm6.2.2.1 (Nat.le_of_ble_eq_true rfl) ?_
          refine I0 _ _ _ _ _ hb d _ (q + 1) 0 ez _ _ (by omega) (by omega) (by omega) hr2 hm6 (fun h3 w H9 => ?_)
          obtain ⟨at1, op1, ho1, ha1, hm_h3⟩ := H9
          have hf1 := (ps_pb c n hc0 _ _ _ _ _ _ hr2 (by omega) (by omega)).1
          refine a_istore_6 (pc := 72) dX12_workOut_72 (by decide) (by first | rfl | trivial) ?_
          refine a_aloadn_0 (pc := 74) dX12_workOut_74 ?_
          refine mg_147 (x := nI (f)) hm_h3 rfl dX12_workOut_75 rfl ?_
          refine n_if_ge (tgt := 96) dX12_workOut_78 (by decide) (by omega) ?_
          refine a_ls (ls' := [some _, some _, some _, some _, some _, none, none, none, none]) ⟨rfl, rfl, rfl, rfl, rfl, trivial⟩ ?_
          exact f96 _ f at1 op1 g y hf1 ha1 rfl hm_h3
      · refine a_iload_5 (pc := 33) dX12_workOut_33 ?_
        refine b_if_eq (pc := 35) (tgt := 107) dX12_workOut_35 (by decide) (fun c_35 => by cases c_35) (fun c_35 => ?_)
        refine a_aloadn_0 (pc := 38) dX12_workOut_38 ?_
        refine cv_X12_178 (pc := 39) rfl dX12_workOut_39 hm1.2.2.1 (Nat.le_of_ble_eq_true rfl) ?_
        refine I0 _ _ _ _ _ hb d _ q0 0 ez _ _ (by omega) (by omega) (by omega) hr1 hm1 (fun h2 v H9 => ?_)
        obtain ⟨hm_h2, hv_h2⟩ := H9
        have hb_h2 := ps_pb c n hc0 _ _ _ _ _ _ hr1 (by omega) (by omega)
        have hq_h2 := hb_h2.1
        have hl_h2 := hb_h2.2.1
        have hqn := ch_lt hc0 (show 0 < c q by omega)
        refine a_istore_6 (pc := 42) dX12_workOut_42 (by decide) (by first | rfl | trivial) ?_
        refine a_iconst (pc := 44) (v := nI 1) dX12_workOut_44 (by decide) ?_
        refine a_istore_7 (pc := 45) dX12_workOut_45 (by decide) (by first | rfl | trivial) ?_
        refine a_aloadn_0 (pc := 47) dX12_workOut_47 ?_
        refine a_bipush (pc := 48) (v := nI 63) dX12_workOut_48 (by decide) ?_
        refine cv_X12_157 (pc := 50) rfl dX12_workOut_50 hm_h2.2.2.1 (Nat.le_of_ble_eq_true rfl) ?_
        refine m_takes (by omega) hz hb (by omega) hm_h2 (by decide) (fun hx h6 hm6 => ?_) (fun hx => absurd h63 hx)
        refine b_if_eq (pc := 53) (tgt := 74) dX12_workOut_53 (by decide) (fun c_53 => by cases c_53) (fun c_53 => ?_)
        refine a_iload_6 (pc := 56) dX12_workOut_56 ?_
        refine a_if_eq (pc := 58) (tgt := 65) dX12_workOut_58 (by decide) (fun c_58 => ?_) (fun c_58 => ?_)
        · refine a_iconst (pc := 65) (v := nI 0) dX12_workOut_65 (by decide) ?_
          refine a_istore_7 (pc := 66) dX12_workOut_66 (by decide) (by first | rfl | trivial) ?_
          refine a_aloadn_0 (pc := 68) dX12_workOut_68 ?_
          refine cv_X12_178 (pc := 69) rfl dX12_workOut_69 hm6.2.2.1 (Nat.le_of_ble_eq_true rfl) ?_
          refine I0 _ _ _ _ _ hb d _ (q + 1) 0 ez _ _ (by omega) (by omega) (by omega) hr2 hm6 (fun h3 w H9 => ?_)
          obtain ⟨hm_h3, hv_h3⟩ := H9
          have hb_h3 := ps_pb c n hc0 _ _ _ _ _ _ hr2 (by omega) (by omega)
          have hq_h3 := hb_h3.1
          have hl_h3 := hb_h3.2.1
          refine a_istore_6 (pc := 72) dX12_workOut_72 (by decide) (by first | rfl | trivial) ?_
          refine a_aloadn_0 (pc := 74) dX12_workOut_74 ?_
          refine mg_147 (x := (-1)) hm_h3 rfl dX12_workOut_75 rfl ?_
          refine a_if_ge (pc := 78) (tgt := 96) dX12_workOut_78 (by decide) (fun c_78 => absurd c_78 (by decide)) (fun c_78 => ?_)
          refine a_iload_7 (pc := 81) dX12_workOut_81 ?_
          refine n_if_eq (tgt := 96) dX12_workOut_83 (by decide) (by decide) (fun c_83 => ?_) (fun c_83 => by omega)
          refine a_ls (ls' := [some _, some _, some _, some _, some _, none, none, none, none]) ⟨rfl, rfl, rfl, rfl, rfl, trivial⟩ ?_
          exact t96 _ _ _ g y hq_h3 H hm_h3 (ln_T5 hg hy hv_h2 c_58)
        · refine a_iconst (pc := 61) (v := nI 1) dX12_workOut_61 (by decide) ?_
          refine a_goto (pc := 62) (tgt := 66) dX12_workOut_62 (by decide) ?_
          refine a_istore_7 (pc := 66) dX12_workOut_66 (by decide) (by first | rfl | trivial) ?_
          refine a_aloadn_0 (pc := 68) dX12_workOut_68 ?_
          refine cv_X12_178 (pc := 69) rfl dX12_workOut_69 hm6.2.2.1 (Nat.le_of_ble_eq_true rfl) ?_
          refine I0 _ _ _ _ _ hb d _ (q + 1) 0 ez _ _ (by omega) (by omega) (by omega) hr2 hm6 (fun h3 w H9 => ?_)
          obtain ⟨hm_h3, hv_h3⟩ := H9
          have hb_h3 := ps_pb c n hc0 _ _ _ _ _ _ hr2 (by omega) (by omega)
          have hq_h3 := hb_h3.1
          have hl_h3 := hb_h3.2.1
          refine a_istore_6 (pc := 72) dX12_workOut_72 (by decide) (by first | rfl | trivial) ?_
          refine a_aloadn_0 (pc := 74) dX12_workOut_74 ?_
          refine mg_147 (x := (-1)) hm_h3 rfl dX12_workOut_75 rfl ?_
          refine a_if_ge (pc := 78) (tgt := 96) dX12_workOut_78 (by decide) (fun c_78 => absurd c_78 (by decide)) (fun c_78 => ?_)
          refine a_iload_7 (pc := 81) dX12_workOut_81 ?_
          refine n_if_eq (tgt := 96) dX12_workOut_83 (by decide) (by decide) (fun c_83 => by omega) (fun c_83 => ?_)
          refine a_iloadn_3 (pc := 86) dX12_workOut_86 ?_
          refine b_if_ne (pc := 87) (tgt := 96) dX12_workOut_87 (by decide) (fun c_87 => ?_) (fun c_87 => ?_)
          · refine a_ls (ls' := [some _, some _, some _, some _, some _, none, none, none, none]) ⟨rfl, rfl, rfl, rfl, rfl, trivial⟩ ?_
            exact t96 _ _ _ g y hq_h3 H hm_h3 (ln_T1 hg hy c_87)
          · refine a_iconst (pc := 90) (v := nI 1) dX12_workOut_90 (by decide) ?_
            refine a_topi (bI true) (by decide) ?_
            refine a_istoren_3 (pc := 91) dX12_workOut_91 (by decide) (by first | rfl | trivial) ?_
            refine a_iload_6 (pc := 92) dX12_workOut_92 ?_
            refine a_istore_4 (pc := 94) dX12_workOut_94 (by decide) (by first | rfl | trivial) ?_
            refine a_ls (ls' := [some _, some _, some _, some _, some _, none, none, none, none]) ⟨rfl, rfl, rfl, rfl, rfl, trivial⟩ ?_
            exact t96 _ _ _ true w hq_h3 H hm_h3 (ln_T3 hg c_87 hv_h2 c_58 hv_h3)
  refine a_aloadn_0 (pc := 0) dX12_workOut_0 ?_
  refine a_iloadn_1 (pc := 1) dX12_workOut_1 ?_
  refine mp_144 (x := bs) hm rfl dX12_workOut_2 (fun h1 hm1 => ?_)
  refine a_aloadn_0 (pc := 5) dX12_workOut_5 ?_
  refine a_iconst (pc := 6) (v := nI 0) dX12_workOut_6 (by decide) ?_
  refine mp_138 (x := 0) hm1 rfl dX12_workOut_7 (fun h2 hm2 => ?_)
  refine a_aloadn_0 (pc := 10) dX12_workOut_10 ?_
  refine a_iloadn_2 (pc := 11) dX12_workOut_11 ?_
  refine mp_141 (x := n) hm2 rfl dX12_workOut_12 (fun h3 hm3 => ?_)
  refine a_aloadn_0 (pc := 15) dX12_workOut_15 ?_
  refine a_iconst (pc := 16) (v := (-1)) dX12_workOut_16 (by decide) ?_
  refine mp_147 (x := (-1)) hm3 rfl dX12_workOut_17 (fun h4 hm4 => ?_)
  refine a_aloadn_0 (pc := 20) dX12_workOut_20 ?_
  refine a_iconst (pc := 21) (v := nI 0) dX12_workOut_21 (by decide) ?_
  refine mp_172 (x := 0) hm4 rfl dX12_workOut_22 (fun h5 hm5 => ?_)
  have hm9 : MS G h0 h5 (b, (bs, 0, n, (-1), 0, nms), t, o) := by rw [hnms]; exact hm5
  refine a_iconst (pc := 25) (v := nI 0) dX12_workOut_25 (by decide) ?_
  refine a_topi (bI false) (by decide) ?_
  refine a_istoren_3 (pc := 26) dX12_workOut_26 (by decide) (by first | rfl | trivial) ?_
  refine a_iconst (pc := 27) (v := nI 0) dX12_workOut_27 (by decide) ?_
  refine a_topi 0 (by decide) ?_
  refine a_istore_4 (pc := 28) dX12_workOut_28 (by decide) (by first | rfl | trivial) ?_
  refine a_iconst (pc := 30) (v := nI 1) dX12_workOut_30 (by decide) ?_
  refine a_topi (bI true) (by decide) ?_
  refine a_istore_5 (pc := 31) dX12_workOut_31 (by decide) (by first | rfl | trivial) ?_
  exact lp 200 _ 0 _ false 0 (Nat.zero_le _) hT hm9 rfl rfl
