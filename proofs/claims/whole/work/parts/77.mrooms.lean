/-! the reference: rooms -/
theorem inL_of {hi : Nat} {x : Int64} (hh : hi < 2147483648) (h : inL 0 (lN hi) x = true) : ∃ n, n ≤ hi ∧ x = lN n := by
  have h : 0 ≤ x ∧ x ≤ lN hi := by simpa [inL] using h
  have h1 := Int64.le_iff_toInt_le.mp h.1
  have h2 := Int64.le_iff_toInt_le.mp h.2
  rw [lN_toInt hh] at h2
  have h0 : (0 : Int64).toInt = 0 := by decide
  rw [h0] at h1
  refine ⟨x.toInt.toNat, by omega, Int64.toInt_inj.mp ?_⟩
  rw [lN_toInt (by omega)]
  omega
def lNat (x : Int64) : Nat := x.toInt.toNat
theorem lNat_lN {n : Nat} (h : n < 2147483648) : lNat (lN n) = n := by
  unfold lNat
  rw [lN_toInt h]; omega
def rowT (el : Nat → Int64) (sz i : Nat) : Option (Nat × Nat × Nat) := if i + 3 ≤ sz ∧ inL 0 (lN 35) (el i) = true ∧ inL 0 (lN 99) (el (i + 1)) = true ∧ inL 0 (lN 9) (el (i + 2)) = true then some (lNat (el i), lNat (el (i + 1)), lNat (el (i + 2))) else none
def rms (el : Nat → Int64) (sz : Nat) : Nat → Nat → (Nat → Nat) → (Nat → Nat) × Nat
  | 0, _, f => (f, 0)
  | n + 1, i, f => match rowT el sz i with
    | none => (f, 0)
    | some (r, w, g) => ((rms el sz n (i + 3) (va_up (va_up f r w) (36 + r) g)).1, (rms el sz n (i + 3) (va_up (va_up f r w) (36 + r) g)).2 + 1)
theorem rms_no {el : Nat → Int64} {sz m c i : Nat} {f : Nat → Nat} (hc : c < m) (h : rowT el sz i = none) : rms el sz (m - c) i f = (f, 0) := by
  rw [show m - c = (m - (c + 1)) + 1 by omega, rms, h]
theorem rms_ok {el : Nat → Int64} {sz m c i r w g : Nat} {f : Nat → Nat} (hc : c < m) (h : rowT el sz i = some (r, w, g)) : rms el sz (m - c) i f = ((rms el sz (m - (c + 1)) (i + 3) (va_up (va_up f r w) (36 + r) g)).1, (rms el sz (m - (c + 1)) (i + 3) (va_up (va_up f r w) (36 + r) g)).2 + 1) := by
  rw [show m - c = (m - (c + 1)) + 1 by omega, rms, h]
theorem rowT_no {el : Nat → Int64} {sz i : Nat} (h : ¬ (i + 3 ≤ sz ∧ inL 0 (lN 35) (el i) = true ∧ inL 0 (lN 99) (el (i + 1)) = true ∧ inL 0 (lN 9) (el (i + 2)) = true)) : rowT el sz i = none := if_neg h
theorem rowT_ok {el : Nat → Int64} {sz i r w g : Nat} (h : i + 3 ≤ sz) (hr : r ≤ 35) (hw : w ≤ 99) (hg : g ≤ 9) (e1 : el i = lN r) (e2 : el (i + 1) = lN w) (e3 : el (i + 2) = lN g) : rowT el sz i = some (r, w, g) := by
  have a : ∀ hi n, n ≤ hi → hi < 2147483648 → inL 0 (lN hi) (lN n) = true := fun hi n h1 h2 => by rw [inL_lN h2 (by omega)]; exact decide_eq_true h1
  unfold rowT
  rw [e1, e2, e3, if_pos ⟨h, a _ _ hr (by decide), a _ _ hw (by decide), a _ _ hg (by decide)⟩, lNat_lN (by omega), lNat_lN (by omega), lNat_lN (by omega)]
theorem pr_s {A : Nat → Nat} {B c : Nat} {X : (Nat → Nat) × Nat} (h : X = ((A, B + 1).1, (A, B + 1).2 + c)) : X = (A, B + (c + 1)) := by
  rw [h]
  show (A, B + 1 + c) = (A, B + (c + 1))
  rw [Nat.add_assoc, Nat.add_comm 1 c]
theorem cmp3 {i m c : Nat} (hi : i < 2147483648) (hm : m ≤ 60) (hc : c ≤ 20) : nI m - nI 3 - nI (3 * c) < nI i ↔ ¬ i + 3 * c + 3 ≤ m := by
  rw [Int32.lt_iff_toInt_lt, nI_toInt hi, Int32.toInt_sub, Int32.toInt_sub, nI_toInt (by omega), nI_toInt (by omega), nI_toInt (by omega), Int.bmod_eq_of_le (n := (m : Int) - (3 : Nat)) (by omega) (by omega), Int.bmod_eq_of_le (by omega) (by omega)]
  omega
set_option maxRecDepth 100000 in
set_option maxHeartbeats 4000000 in
theorem m_rooms {G : Cx} {d : Nat} {h h0 : List va_E} {b : MB} {p : MP} {t : MT} {o : MO} {Q : Option Value → List va_E → Prop} (hd : 4 ≤ d) (hz : gz G = false) (hm : MS G h0 h (b, p, t, o)) {dd ii nn : Int32} (hS : ShI b) (k0 : (inR 0 (nI 5) dd && inR (nI 1) (nI 20) nn) = false → Q (some (.int (-1))) h) (k2 : ∀ q, q < 6 → dd = nI q → (∃ m, nn = nI m ∧ 1 ≤ m ∧ m ≤ 20) → ¬ gShelf b q < 0 → ¬ gShelf b q = nI 50 → Q (some (.int (-12))) h) (k1 : ∀ q m, q < 6 → dd = nI q → nn = nI m → 1 ≤ m → m ≤ 20 → (gShelf b q < 0 ∨ gShelf b q = nI 50) → ∀ h1 (f : Nat → Nat) c, (f, c) = (if gShelf b q = nI 50 ∧ ¬ ii < 0 then rms (elO b q) (gMany b q) m (iN ii) (gMay b) else (gMay b, 0)) → MS G h0 h1 (uMay b f, p, t, o) → Q (some (.int (nI c))) h1) : AM G yX12_rooms cX12_rooms 7 (some .int) d 0 0 [.ref (gB G + 80), .int (dd), .int (ii), .int (nn)] h Q := by
  obtain ⟨d, rfl, he⟩ := dpos hd
  refine AM.of [some (.ref (gB G + 80)), some (.int (dd)), some (.int (ii)), some (.int (nn)), none, none, none] pnX12 (Nat.le_of_ble_eq_true rfl) (by simp [lsub, lvI, Value.category]) ?_
  refine a_iloadn_1 (pc := 0) dX12_rooms_0 ?_
  refine cs_X12_100 (pc := 1) rfl dX12_rooms_1 (Nat.le_of_ble_eq_true rfl) ?_
  refine m_isShelf (by omega) hz ?_
  refine b_if_eq (pc := 4) (tgt := 19) dX12_rooms_4 (by decide) (fun c_4 => ?_) (fun c_4 => ?_)
  · refine a_iconst (pc := 19) (v := (-1)) dX12_rooms_19 (by decide) ?_
    exact a_iret (pc := 20) dX12_rooms_20 rfl (zf hz) (k0 (by simp [c_4]))
  · obtain ⟨n_dd, h_dd, rfl⟩ := inR_of (by decide) c_4
    have i_dd : iN (nI n_dd) = n_dd := iN_nI (by omega)
    refine a_iloadn_3 (pc := 7) dX12_rooms_7 ?_
    refine a_i2l (pc := 8) dX12_rooms_8 ?_
    refine a_lconst (pc := 9) (v := 1) dX12_rooms_9 (by decide) ?_
    refine a_ldc2 (pc := 10) dX12_rooms_10 w_1137 ?_
    refine cs_X12_96 (pc := 13) rfl dX12_rooms_13 (Nat.le_of_ble_eq_true rfl) ?_
    refine m_within (by omega) hz ?_
    refine a_topi (bI (inR (nI 1) (nI 20) nn)) (congrArg bI (inL_R 1 20 (by decide) (by decide) nn)) ?_
    refine b_if_ne (pc := 16) (tgt := 21) dX12_rooms_16 (by decide) (fun c_16 => ?_) (fun c_16 => ?_)
    · obtain ⟨n_nn, h0_nn, h_nn, rfl⟩ := inR_1 (by decide) (by decide) c_16
      have i_nn : iN (nI n_nn) = n_nn := iN_nI (by omega)
      refine a_aloadn_0 (pc := 21) dX12_rooms_21 ?_
      refine mg_71 hm rfl dX12_rooms_22 ?_
      refine a_iloadn_1 (pc := 25) dX12_rooms_25 ?_
      refine ml_shelf (x := gShelf b n_dd) hm dX12_rooms_26 (by omega) rfl ?_
      refine a_if_lt (pc := 27) (tgt := 44) dX12_rooms_27 (by decide) (fun c_27 => ?_) (fun c_27 => ?_)
      · refine a_iconst (pc := 44) (v := nI 0) dX12_rooms_44 (by decide) ?_
        refine a_istore_4 (pc := 45) dX12_rooms_45 (by decide) (by first | rfl | trivial) ?_
        refine a_aloadn_0 (pc := 47) dX12_rooms_47 ?_
        refine mg_71 hm rfl dX12_rooms_48 ?_
        refine a_iloadn_1 (pc := 51) dX12_rooms_51 ?_
        refine ml_shelf (x := gShelf b n_dd) hm dX12_rooms_52 (by omega) rfl ?_
        refine a_bipush (pc := 53) (v := nI 50) dX12_rooms_53 (by decide) ?_
        refine a_icmp_ne (pc := 55) (tgt := 66) dX12_rooms_55 (by decide) (fun c_55 => ?_) (fun c_55 => ?_)
        · refine a_iconst (pc := 66) (v := nI 0) dX12_rooms_66 (by decide) ?_
          refine a_topi (bI false) (by decide) ?_
          refine a_istore_5 (pc := 67) dX12_rooms_67 (by decide) (by first | rfl | trivial) ?_
          refine a_iload_5 (pc := 69) dX12_rooms_69 ?_
          refine b_if_eq (pc := 71) (tgt := 240) dX12_rooms_71 (by decide) (fun c_71 => ?_) (fun c_71 => by cases c_71)
          refine a_iload_4 (pc := 240) dX12_rooms_240 ?_
          exact a_iret (pc := 242) dX12_rooms_242 rfl (zf hz) (k1 n_dd n_nn (by omega) rfl rfl (by omega) (by omega) (by first | exact Or.inl c_27 | exact Or.inr c_38) _ (gMay b) 0 (by rw [if_neg (by first | exact fun z => c_55 z.1 | exact fun z => z.2 c_59)]) hm)
        · refine a_iloadn_2 (pc := 58) dX12_rooms_58 ?_
          refine a_if_lt (pc := 59) (tgt := 66) dX12_rooms_59 (by decide) (fun c_59 => ?_) (fun c_59 => ?_)
          · refine a_iconst (pc := 66) (v := nI 0) dX12_rooms_66 (by decide) ?_
            refine a_topi (bI false) (by decide) ?_
            refine a_istore_5 (pc := 67) dX12_rooms_67 (by decide) (by first | rfl | trivial) ?_
            refine a_iload_5 (pc := 69) dX12_rooms_69 ?_
            refine b_if_eq (pc := 71) (tgt := 240) dX12_rooms_71 (by decide) (fun c_71 => ?_) (fun c_71 => by cases c_71)
            refine a_iload_4 (pc := 240) dX12_rooms_240 ?_
            exact a_iret (pc := 242) dX12_rooms_242 rfl (zf hz) (k1 n_dd n_nn (by omega) rfl rfl (by omega) (by omega) (by first | exact Or.inl c_27 | exact Or.inr c_38) _ (gMay b) 0 (by rw [if_neg (by first | exact fun z => c_55 z.1 | exact fun z => z.2 c_59)]) hm)
          · obtain ⟨i9, hi9, rfl⟩ := nn_nI c_59
            have i_9 : iN (nI i9) = i9 := iN_nI hi9
            have hi0 : ¬ nI i9 < 0 := c_59
            have m60 := (hS.2 n_dd (by omega)).2
            have c_53 : gShelf b n_dd = nI 50 := c_55
            obtain ⟨⟨FF, CC⟩, hFC⟩ : ∃ x, rms (elO b n_dd) (gMany b n_dd) n_nn i9 (gMay b) = x := ⟨_, rfl⟩
            have lz : ∀ (c : Nat) (f : Nat → Nat) (h1 : List va_E), c ≤ n_nn → (FF, CC) = (f, c) → MS G h0 h1 (uMay b f, p, t, o) → AW G yX12_rooms cX12_rooms 7 (some .int) (rmx (d + 1) 0 0) (ZQ G 0 0 (h.length + 0) Q) 0 0 69 [some (.ref (gB G + 80)), some (.int (nI (n_dd))), some (.int (nI (i9))), some (.int (nI (n_nn))), some (.int (nI (c))), some (.int (bI (false))), none] [] h1 := by
              intro c f h1 hc hRf hm1
              refine a_iload_5 (pc := 69) dX12_rooms_69 ?_
              refine b_if_eq (pc := 71) (tgt := 240) dX12_rooms_71 (by decide) (fun c_71 => ?_) (fun c_71 => by cases c_71)
              refine a_iload_4 (pc := 240) dX12_rooms_240 ?_
              exact a_iret (pc := 242) dX12_rooms_242 rfl (zf hz) (k1 n_dd n_nn (by omega) rfl rfl (by omega) (by omega) (Or.inr c_53) _ f c (by rw [if_pos ⟨c_53, hi0⟩, i_9, hFC]; exact hRf.symm) hm1)
            have lt : ∀ (n c : Nat) (f : Nat → Nat) (h1 : List va_E), 21 - c < n → c ≤ n_nn → (FF, CC) = ((rms (elO b n_dd) (gMany b n_dd) (n_nn - c) (i9 + 3 * c) f).1, (rms (elO b n_dd) (gMany b n_dd) (n_nn - c) (i9 + 3 * c) f).2 + c) → MS G h0 h1 (uMay b f, p, t, o) → AW G yX12_rooms cX12_rooms 7 (some .int) (rmx (d + 1) 0 0) (ZQ G 0 0 (h.length + 0) Q) 0 0 69 [some (.ref (gB G + 80)), some (.int (nI (n_dd))), some (.int (nI (i9))), some (.int (nI (n_nn))), some (.int (nI (c))), some (.int (bI (true))), none] [] h1 := by
              intro n
              induction n with
              | zero => intro c f h1 hn; exact absurd hn (Nat.not_lt_zero _)
              | succ n ih =>
                intro c f h1 hn hc hR hm1
                have hR : (FF, CC) = ((rms (elO b n_dd) (gMany b n_dd) (n_nn - c) (i9 + 3 * c) f).1, (rms (elO b n_dd) (gMany b n_dd) (n_nn - c) (i9 + 3 * c) f).2 + c) := hR
                refine a_iload_5 (pc := 69) dX12_rooms_69 ?_
                refine b_if_eq (pc := 71) (tgt := 240) dX12_rooms_71 (by decide) (fun c_71 => by cases c_71) (fun c_71 => ?_)
                refine a_iload_4 (pc := 74) dX12_rooms_74 ?_
                refine a_iloadn_3 (pc := 76) dX12_rooms_76 ?_
                refine n_icmp_ge (tgt := 240) dX12_rooms_77 (by decide) (by omega) (by omega) (fun c_77 => ?_) (fun c_77 => ?_)
                · have cm : c = n_nn := by omega
                  refine a_iload_4 (pc := 240) dX12_rooms_240 ?_
                  exact a_iret (pc := 242) dX12_rooms_242 rfl (zf hz) (k1 n_dd n_nn (by omega) rfl rfl (by omega) (by omega) (Or.inr c_53) _ f c (by rw [if_pos ⟨c_53, hi0⟩, i_9, hFC, hR, show n_nn - c = 0 by omega, rms]; exact congrArg (Prod.mk f) (Nat.zero_add c).symm) hm1)
                · refine a_iloadn_2 (pc := 80) dX12_rooms_80 ?_
                  refine a_aloadn_0 (pc := 81) dX12_rooms_81 ?_
                  refine mg_74 hm1 rfl dX12_rooms_82 ?_
                  refine a_iloadn_1 (pc := 85) dX12_rooms_85 ?_
                  refine ml_many (x := gMany b n_dd) hm1 dX12_rooms_86 (by omega) rfl ?_
                  refine a_iconst (pc := 87) (v := nI 3) dX12_rooms_87 (by decide) ?_
                  refine a_isub (pc := 88) dX12_rooms_88 ?_
                  refine a_iconst (pc := 89) (v := nI 3) dX12_rooms_89 (by decide) ?_
                  refine a_iload_4 (pc := 90) dX12_rooms_90 ?_
                  refine n_imul dX12_rooms_92 ?_
                  refine a_isub (pc := 93) dX12_rooms_93 ?_
                  refine a_icmp_gt (pc := 94) (tgt := 101) dX12_rooms_94 (by decide) (fun c_94 => ?_) (fun c_94 => ?_)
                  · have hT := rowT_no (el := (elO b n_dd)) (sz := (gMany b n_dd)) (i := i9 + 3 * c) (fun z => by exact (cmp3 (by omega) (by omega) (by omega)).mp c_94 z.1)
                    have hR2 := hR
                    rw [rms_no (by omega) hT] at hR2
                    refine a_iconst (pc := 101) (v := nI 0) dX12_rooms_101 (by decide) ?_
                    refine a_topi (bI false) (by decide) ?_
                    refine a_istore_5 (pc := 102) dX12_rooms_102 (by decide) (by first | rfl | trivial) ?_
                    refine a_bipush (pc := 104) (v := nI 60) dX12_rooms_104 (by decide) ?_
                    refine a_iloadn_1 (pc := 106) dX12_rooms_106 ?_
                    refine n_imul dX12_rooms_107 ?_
                    refine a_iloadn_2 (pc := 108) dX12_rooms_108 ?_
                    refine n_iadd dX12_rooms_109 ?_
                    refine a_iconst (pc := 110) (v := nI 3) dX12_rooms_110 (by decide) ?_
                    refine a_iload_4 (pc := 111) dX12_rooms_111 ?_
                    refine n_imul dX12_rooms_113 ?_
                    refine n_iadd dX12_rooms_114 ?_
                    refine a_istore_6 (pc := 115) dX12_rooms_115 (by decide) (by first | rfl | trivial) ?_
                    refine a_iload_5 (pc := 117) dX12_rooms_117 ?_
                    refine b_if_eq (pc := 119) (tgt := 177) dX12_rooms_119 (by decide) (fun c_119 => ?_) (fun c_119 => by cases c_119)
                    refine a_iconst (pc := 177) (v := nI 0) dX12_rooms_177 (by decide) ?_
                    refine a_topi (bI false) (by decide) ?_
                    refine a_istore_5 (pc := 178) dX12_rooms_178 (by decide) (by first | rfl | trivial) ?_
                    refine a_iload_5 (pc := 180) dX12_rooms_180 ?_
                    refine b_if_eq (pc := 182) (tgt := 237) dX12_rooms_182 (by decide) (fun c_182 => ?_) (fun c_182 => by cases c_182)
                    refine a_goto (pc := 237) (tgt := 69) dX12_rooms_237 (by decide) ?_
                    refine a_ls (ls' := [some _, some _, some _, some _, some _, some _, none, none]) ⟨rfl, rfl, rfl, rfl, rfl, rfl, trivial⟩ ?_
                    first
                      | exact ih (c + 1) _ _ (by omega) (by omega) (by rw [hR2, show i9 + 3 * c + 3 = i9 + 3 * (c + 1) by omega]) hm1
                      | exact lz c _ _ (by omega) (hR2.trans (congrArg (Prod.mk f) (Nat.zero_add c))) hm1
                  · have c3 : i9 + 3 * c + 3 ≤ gMany b n_dd := Classical.byContradiction (fun z => c_94 ((cmp3 (by omega) (by omega) (by omega)).mpr z))
                    refine a_iconst (pc := 97) (v := nI 1) dX12_rooms_97 (by decide) ?_
                    refine a_topi (bI true) (by decide) ?_
                    refine a_goto (pc := 98) (tgt := 102) dX12_rooms_98 (by decide) ?_
                    refine a_istore_5 (pc := 102) dX12_rooms_102 (by decide) (by first | rfl | trivial) ?_
                    refine a_bipush (pc := 104) (v := nI 60) dX12_rooms_104 (by decide) ?_
                    refine a_iloadn_1 (pc := 106) dX12_rooms_106 ?_
                    refine n_imul dX12_rooms_107 ?_
                    refine a_iloadn_2 (pc := 108) dX12_rooms_108 ?_
                    refine n_iadd dX12_rooms_109 ?_
                    refine a_iconst (pc := 110) (v := nI 3) dX12_rooms_110 (by decide) ?_
                    refine a_iload_4 (pc := 111) dX12_rooms_111 ?_
                    refine n_imul dX12_rooms_113 ?_
                    refine n_iadd dX12_rooms_114 ?_
                    refine a_istore_6 (pc := 115) dX12_rooms_115 (by decide) (by first | rfl | trivial) ?_
                    refine a_iload_5 (pc := 117) dX12_rooms_117 ?_
                    refine b_if_eq (pc := 119) (tgt := 177) dX12_rooms_119 (by decide) (fun c_119 => by cases c_119) (fun c_119 => ?_)
                    refine a_aloadn_0 (pc := 122) dX12_rooms_122 ?_
                    refine mg_77 hm1 rfl dX12_rooms_123 ?_
                    refine a_iload_6 (pc := 126) dX12_rooms_126 ?_
                    refine ml_items (x := gItems b (60 * n_dd + i9 + (3 * c))) hm1 dX12_rooms_128 (by omega) rfl ?_
                    refine cs_X12_106 (pc := 129) rfl dX12_rooms_129 (Nat.le_of_ble_eq_true rfl) ?_
                    refine m_isRoom (by omega) hz ?_
                    refine b_if_eq (pc := 132) (tgt := 177) dX12_rooms_132 (by decide) (fun c_132 => ?_) (fun c_132 => ?_)
                    · have hT := rowT_no (el := (elO b n_dd)) (sz := (gMany b n_dd)) (i := i9 + 3 * c) (fun z => by have z2 : inL 0 _ (gItems b (60 * n_dd + (i9 + 3 * c))) = true := z.2.1; rw [show 60 * n_dd + (i9 + 3 * c) = 60 * n_dd + i9 + 3 * c by omega] at z2; exact absurd (z2.symm.trans (show inL 0 (lN 35) _ = false from c_132)) (by simp))
                      have hR2 := hR
                      rw [rms_no (by omega) hT] at hR2
                      refine a_iconst (pc := 177) (v := nI 0) dX12_rooms_177 (by decide) ?_
                      refine a_topi (bI false) (by decide) ?_
                      refine a_istore_5 (pc := 178) dX12_rooms_178 (by decide) (by first | rfl | trivial) ?_
                      refine a_iload_5 (pc := 180) dX12_rooms_180 ?_
                      refine b_if_eq (pc := 182) (tgt := 237) dX12_rooms_182 (by decide) (fun c_182 => ?_) (fun c_182 => by cases c_182)
                      refine a_goto (pc := 237) (tgt := 69) dX12_rooms_237 (by decide) ?_
                      refine a_ls (ls' := [some _, some _, some _, some _, some _, some _, none, none]) ⟨rfl, rfl, rfl, rfl, rfl, rfl, trivial⟩ ?_
                      first
                        | exact ih (c + 1) _ _ (by omega) (by omega) (by rw [hR2, show i9 + 3 * c + 3 = i9 + 3 * (c + 1) by omega]) hm1
                        | exact lz c _ _ (by omega) (hR2.trans (congrArg (Prod.mk f) (Nat.zero_add c))) hm1
                    · refine a_aloadn_0 (pc := 135) dX12_rooms_135 ?_
                      refine mg_77 hm1 rfl dX12_rooms_136 ?_
                      refine a_iload_6 (pc := 139) dX12_rooms_139 ?_
                      refine a_iconst (pc := 141) (v := nI 1) dX12_rooms_141 (by decide) ?_
                      refine n_iadd dX12_rooms_142 ?_
                      refine ml_items (x := gItems b (60 * n_dd + i9 + (3 * c) + 1)) hm1 dX12_rooms_143 (by omega) rfl ?_
                      refine a_lconst (pc := 144) (v := 0) dX12_rooms_144 (by decide) ?_
                      refine a_ldc2 (pc := 145) dX12_rooms_145 w_1142 ?_
                      refine cs_X12_96 (pc := 148) rfl dX12_rooms_148 (Nat.le_of_ble_eq_true rfl) ?_
                      refine m_within (by omega) hz ?_
                      refine b_if_eq (pc := 151) (tgt := 177) dX12_rooms_151 (by decide) (fun c_151 => ?_) (fun c_151 => ?_)
                      · have hT := rowT_no (el := (elO b n_dd)) (sz := (gMany b n_dd)) (i := i9 + 3 * c) (fun z => by have z2 : inL 0 _ (gItems b (60 * n_dd + (i9 + 3 * c + 1))) = true := z.2.2.1; rw [show 60 * n_dd + (i9 + 3 * c + 1) = 60 * n_dd + i9 + 3 * c + 1 by omega] at z2; exact absurd (z2.symm.trans (show inL 0 (lN 99) _ = false from c_151)) (by simp))
                        have hR2 := hR
                        rw [rms_no (by omega) hT] at hR2
                        refine a_iconst (pc := 177) (v := nI 0) dX12_rooms_177 (by decide) ?_
                        refine a_topi (bI false) (by decide) ?_
                        refine a_istore_5 (pc := 178) dX12_rooms_178 (by decide) (by first | rfl | trivial) ?_
                        refine a_iload_5 (pc := 180) dX12_rooms_180 ?_
                        refine b_if_eq (pc := 182) (tgt := 237) dX12_rooms_182 (by decide) (fun c_182 => ?_) (fun c_182 => by cases c_182)
                        refine a_goto (pc := 237) (tgt := 69) dX12_rooms_237 (by decide) ?_
                        refine a_ls (ls' := [some _, some _, some _, some _, some _, some _, none, none]) ⟨rfl, rfl, rfl, rfl, rfl, rfl, trivial⟩ ?_
                        first
                          | exact ih (c + 1) _ _ (by omega) (by omega) (by rw [hR2, show i9 + 3 * c + 3 = i9 + 3 * (c + 1) by omega]) hm1
                          | exact lz c _ _ (by omega) (hR2.trans (congrArg (Prod.mk f) (Nat.zero_add c))) hm1
                      · refine a_aloadn_0 (pc := 154) dX12_rooms_154 ?_
                        refine mg_77 hm1 rfl dX12_rooms_155 ?_
                        refine a_iload_6 (pc := 158) dX12_rooms_158 ?_
                        refine a_iconst (pc := 160) (v := nI 2) dX12_rooms_160 (by decide) ?_
                        refine n_iadd dX12_rooms_161 ?_
                        refine ml_items (x := gItems b (60 * n_dd + i9 + (3 * c) + 2)) hm1 dX12_rooms_162 (by omega) rfl ?_
                        refine a_lconst (pc := 163) (v := 0) dX12_rooms_163 (by decide) ?_
                        refine a_ldc2 (pc := 164) dX12_rooms_164 w_1143 ?_
                        refine cs_X12_96 (pc := 167) rfl dX12_rooms_167 (Nat.le_of_ble_eq_true rfl) ?_
                        refine m_within (by omega) hz ?_
                        refine b_if_eq (pc := 170) (tgt := 177) dX12_rooms_170 (by decide) (fun c_170 => ?_) (fun c_170 => ?_)
                        · have hT := rowT_no (el := (elO b n_dd)) (sz := (gMany b n_dd)) (i := i9 + 3 * c) (fun z => by have z2 : inL 0 _ (gItems b (60 * n_dd + (i9 + 3 * c + 2))) = true := z.2.2.2; rw [show 60 * n_dd + (i9 + 3 * c + 2) = 60 * n_dd + i9 + 3 * c + 2 by omega] at z2; exact absurd (z2.symm.trans (show inL 0 (lN 9) _ = false from c_170)) (by simp))
                          have hR2 := hR
                          rw [rms_no (by omega) hT] at hR2
                          refine a_iconst (pc := 177) (v := nI 0) dX12_rooms_177 (by decide) ?_
                          refine a_topi (bI false) (by decide) ?_
                          refine a_istore_5 (pc := 178) dX12_rooms_178 (by decide) (by first | rfl | trivial) ?_
                          refine a_iload_5 (pc := 180) dX12_rooms_180 ?_
                          refine b_if_eq (pc := 182) (tgt := 237) dX12_rooms_182 (by decide) (fun c_182 => ?_) (fun c_182 => by cases c_182)
                          refine a_goto (pc := 237) (tgt := 69) dX12_rooms_237 (by decide) ?_
                          refine a_ls (ls' := [some _, some _, some _, some _, some _, some _, none, none]) ⟨rfl, rfl, rfl, rfl, rfl, rfl, trivial⟩ ?_
                          first
                            | exact ih (c + 1) _ _ (by omega) (by omega) (by rw [hR2, show i9 + 3 * c + 3 = i9 + 3 * (c + 1) by omega]) hm1
                            | exact lz c _ _ (by omega) (hR2.trans (congrArg (Prod.mk f) (Nat.zero_add c))) hm1
                        · refine a_iconst (pc := 173) (v := nI 1) dX12_rooms_173 (by decide) ?_
                          refine a_topi (bI true) (by decide) ?_
                          refine a_goto (pc := 174) (tgt := 178) dX12_rooms_174 (by decide) ?_
                          refine a_istore_5 (pc := 178) dX12_rooms_178 (by decide) (by first | rfl | trivial) ?_
                          refine a_iload_5 (pc := 180) dX12_rooms_180 ?_
                          refine b_if_eq (pc := 182) (tgt := 237) dX12_rooms_182 (by decide) (fun c_182 => by cases c_182) (fun c_182 => ?_)
                          obtain ⟨r9, hr9, er⟩ := inL_of (hi := 35) (by decide) c_132
                          obtain ⟨w9, hw9, ew⟩ := inL_of (hi := 99) (by decide) c_151
                          obtain ⟨g9, hg9, eg⟩ := inL_of (hi := 9) (by decide) c_170
                          have hT := rowT_ok (el := (elO b n_dd)) (sz := (gMany b n_dd)) (i := i9 + 3 * c) (by omega) hr9 hw9 hg9 (by show gItems b _ = _; rw [← er, Nat.add_assoc]) (by show gItems b _ = _; rw [← ew]; congr 1; omega) (by show gItems b _ = _; rw [← eg]; congr 1; omega)
                          have hR2 := hR
                          rw [rms_ok (by omega) hT] at hR2
                          have hR2 := pr_s hR2
                          refine a_aloadn_0 (pc := 185) dX12_rooms_185 ?_
                          refine mg_9 hm1 rfl dX12_rooms_186 ?_
                          refine a_aloadn_0 (pc := 189) dX12_rooms_189 ?_
                          refine mg_77 hm1 rfl dX12_rooms_190 ?_
                          refine a_iload_6 (pc := 193) dX12_rooms_193 ?_
                          refine ml_items (x := lN r9) hm1 dX12_rooms_195 (by omega) er ?_
                          refine n_l2i dX12_rooms_196 ?_
                          refine a_aloadn_0 (pc := 197) dX12_rooms_197 ?_
                          refine mg_77 hm1 rfl dX12_rooms_198 ?_
                          refine a_iload_6 (pc := 201) dX12_rooms_201 ?_
                          refine a_iconst (pc := 203) (v := nI 1) dX12_rooms_203 (by decide) ?_
                          refine n_iadd dX12_rooms_204 ?_
                          refine ml_items (x := lN w9) hm1 dX12_rooms_205 (by omega) ew ?_
                          refine n_l2i dX12_rooms_206 ?_
                          refine ms_may (j := r9) (x := w9) hm1 dX12_rooms_207 (by omega) (fun h10 hm10 => ?_)
                          refine a_aloadn_0 (pc := 208) dX12_rooms_208 ?_
                          refine mg_9 hm10 rfl dX12_rooms_209 ?_
                          refine a_bipush (pc := 212) (v := nI 36) dX12_rooms_212 (by decide) ?_
                          refine a_aloadn_0 (pc := 214) dX12_rooms_214 ?_
                          refine mg_77 hm10 rfl dX12_rooms_215 ?_
                          refine a_iload_6 (pc := 218) dX12_rooms_218 ?_
                          refine ml_items (x := lN r9) hm10 dX12_rooms_220 (by omega) er ?_
                          refine n_l2i dX12_rooms_221 ?_
                          refine n_iadd dX12_rooms_222 ?_
                          refine a_aloadn_0 (pc := 223) dX12_rooms_223 ?_
                          refine mg_77 hm10 rfl dX12_rooms_224 ?_
                          refine a_iload_6 (pc := 227) dX12_rooms_227 ?_
                          refine a_iconst (pc := 229) (v := nI 2) dX12_rooms_229 (by decide) ?_
                          refine n_iadd dX12_rooms_230 ?_
                          refine ml_items (x := lN g9) hm10 dX12_rooms_231 (by omega) eg ?_
                          refine n_l2i dX12_rooms_232 ?_
                          refine ms_may (j := (36 + r9)) (x := g9) hm10 dX12_rooms_233 (by omega) (fun h11 hm11 => ?_)
                          refine a_iinc_4 (pc := 234) (v := nI (c + 1)) dX12_rooms_234 (nI_add _ _) (by decide) (by first | rfl | trivial) ?_
                          refine a_goto (pc := 237) (tgt := 69) dX12_rooms_237 (by decide) ?_
                          refine a_ls (ls' := [some _, some _, some _, some _, some _, some _, none, none]) ⟨rfl, rfl, rfl, rfl, rfl, rfl, trivial⟩ ?_
                          first
                            | exact ih (c + 1) _ _ (by omega) (by omega) (by rw [hR2, show i9 + 3 * c + 3 = i9 + 3 * (c + 1) by omega]) hm11
                            | exact lz c _ _ (by omega) (hR2.trans (congrArg (Prod.mk f) (Nat.zero_add c))) hm11
            refine a_iconst (pc := 62) (v := nI 1) dX12_rooms_62 (by decide) ?_
            refine a_topi (bI true) (by decide) ?_
            refine a_goto (pc := 63) (tgt := 67) dX12_rooms_63 (by decide) ?_
            refine a_istore_5 (pc := 67) dX12_rooms_67 (by decide) (by first | rfl | trivial) ?_
            exact lt 22 0 _ _ (by omega) (by omega) (by rw [Nat.sub_zero, Nat.mul_zero, Nat.add_zero, hFC]; rfl) hm
      · refine a_aloadn_0 (pc := 30) dX12_rooms_30 ?_
        refine mg_71 hm rfl dX12_rooms_31 ?_
        refine a_iloadn_1 (pc := 34) dX12_rooms_34 ?_
        refine ml_shelf (x := gShelf b n_dd) hm dX12_rooms_35 (by omega) rfl ?_
        refine a_bipush (pc := 36) (v := nI 50) dX12_rooms_36 (by decide) ?_
        refine a_icmp_eq (pc := 38) (tgt := 44) dX12_rooms_38 (by decide) (fun c_38 => ?_) (fun c_38 => ?_)
        · refine a_iconst (pc := 44) (v := nI 0) dX12_rooms_44 (by decide) ?_
          refine a_istore_4 (pc := 45) dX12_rooms_45 (by decide) (by first | rfl | trivial) ?_
          refine a_aloadn_0 (pc := 47) dX12_rooms_47 ?_
          refine mg_71 hm rfl dX12_rooms_48 ?_
          refine a_iloadn_1 (pc := 51) dX12_rooms_51 ?_
          refine ml_shelf (x := gShelf b n_dd) hm dX12_rooms_52 (by omega) rfl ?_
          refine a_bipush (pc := 53) (v := nI 50) dX12_rooms_53 (by decide) ?_
          refine a_icmp_ne (pc := 55) (tgt := 66) dX12_rooms_55 (by decide) (fun c_55 => ?_) (fun c_55 => ?_)
          · refine a_iconst (pc := 66) (v := nI 0) dX12_rooms_66 (by decide) ?_
            refine a_topi (bI false) (by decide) ?_
            refine a_istore_5 (pc := 67) dX12_rooms_67 (by decide) (by first | rfl | trivial) ?_
            refine a_iload_5 (pc := 69) dX12_rooms_69 ?_
            refine b_if_eq (pc := 71) (tgt := 240) dX12_rooms_71 (by decide) (fun c_71 => ?_) (fun c_71 => by cases c_71)
            refine a_iload_4 (pc := 240) dX12_rooms_240 ?_
            exact a_iret (pc := 242) dX12_rooms_242 rfl (zf hz) (k1 n_dd n_nn (by omega) rfl rfl (by omega) (by omega) (by first | exact Or.inl c_27 | exact Or.inr c_38) _ (gMay b) 0 (by rw [if_neg (by first | exact fun z => c_55 z.1 | exact fun z => z.2 c_59)]) hm)
          · refine a_iloadn_2 (pc := 58) dX12_rooms_58 ?_
            refine a_if_lt (pc := 59) (tgt := 66) dX12_rooms_59 (by decide) (fun c_59 => ?_) (fun c_59 => ?_)
            · refine a_iconst (pc := 66) (v := nI 0) dX12_rooms_66 (by decide) ?_
              refine a_topi (bI false) (by decide) ?_
              refine a_istore_5 (pc := 67) dX12_rooms_67 (by decide) (by first | rfl | trivial) ?_
              refine a_iload_5 (pc := 69) dX12_rooms_69 ?_
              refine b_if_eq (pc := 71) (tgt := 240) dX12_rooms_71 (by decide) (fun c_71 => ?_) (fun c_71 => by cases c_71)
              refine a_iload_4 (pc := 240) dX12_rooms_240 ?_
              exact a_iret (pc := 242) dX12_rooms_242 rfl (zf hz) (k1 n_dd n_nn (by omega) rfl rfl (by omega) (by omega) (by first | exact Or.inl c_27 | exact Or.inr c_38) _ (gMay b) 0 (by rw [if_neg (by first | exact fun z => c_55 z.1 | exact fun z => z.2 c_59)]) hm)
            · obtain ⟨i9, hi9, rfl⟩ := nn_nI c_59
              have i_9 : iN (nI i9) = i9 := iN_nI hi9
              have hi0 : ¬ nI i9 < 0 := c_59
              have m60 := (hS.2 n_dd (by omega)).2
              have c_53 : gShelf b n_dd = nI 50 := c_55
              obtain ⟨⟨FF, CC⟩, hFC⟩ : ∃ x, rms (elO b n_dd) (gMany b n_dd) n_nn i9 (gMay b) = x := ⟨_, rfl⟩
              have lz : ∀ (c : Nat) (f : Nat → Nat) (h1 : List va_E), c ≤ n_nn → (FF, CC) = (f, c) → MS G h0 h1 (uMay b f, p, t, o) → AW G yX12_rooms cX12_rooms 7 (some .int) (rmx (d + 1) 0 0) (ZQ G 0 0 (h.length + 0) Q) 0 0 69 [some (.ref (gB G + 80)), some (.int (nI (n_dd))), some (.int (nI (i9))), some (.int (nI (n_nn))), some (.int (nI (c))), some (.int (bI (false))), none] [] h1 := by
                intro c f h1 hc hRf hm1
                refine a_iload_5 (pc := 69) dX12_rooms_69 ?_
                refine b_if_eq (pc := 71) (tgt := 240) dX12_rooms_71 (by decide) (fun c_71 => ?_) (fun c_71 => by cases c_71)
                refine a_iload_4 (pc := 240) dX12_rooms_240 ?_
                exact a_iret (pc := 242) dX12_rooms_242 rfl (zf hz) (k1 n_dd n_nn (by omega) rfl rfl (by omega) (by omega) (Or.inr c_53) _ f c (by rw [if_pos ⟨c_53, hi0⟩, i_9, hFC]; exact hRf.symm) hm1)
              have lt : ∀ (n c : Nat) (f : Nat → Nat) (h1 : List va_E), 21 - c < n → c ≤ n_nn → (FF, CC) = ((rms (elO b n_dd) (gMany b n_dd) (n_nn - c) (i9 + 3 * c) f).1, (rms (elO b n_dd) (gMany b n_dd) (n_nn - c) (i9 + 3 * c) f).2 + c) → MS G h0 h1 (uMay b f, p, t, o) → AW G yX12_rooms cX12_rooms 7 (some .int) (rmx (d + 1) 0 0) (ZQ G 0 0 (h.length + 0) Q) 0 0 69 [some (.ref (gB G + 80)), some (.int (nI (n_dd))), some (.int (nI (i9))), some (.int (nI (n_nn))), some (.int (nI (c))), some (.int (bI (true))), none] [] h1 := by
                intro n
                induction n with
                | zero => intro c f h1 hn; exact absurd hn (Nat.not_lt_zero _)
                | succ n ih =>
                  intro c f h1 hn hc hR hm1
                  have hR : (FF, CC) = ((rms (elO b n_dd) (gMany b n_dd) (n_nn - c) (i9 + 3 * c) f).1, (rms (elO b n_dd) (gMany b n_dd) (n_nn - c) (i9 + 3 * c) f).2 + c) := hR
                  refine a_iload_5 (pc := 69) dX12_rooms_69 ?_
                  refine b_if_eq (pc := 71) (tgt := 240) dX12_rooms_71 (by decide) (fun c_71 => by cases c_71) (fun c_71 => ?_)
                  refine a_iload_4 (pc := 74) dX12_rooms_74 ?_
                  refine a_iloadn_3 (pc := 76) dX12_rooms_76 ?_
                  refine n_icmp_ge (tgt := 240) dX12_rooms_77 (by decide) (by omega) (by omega) (fun c_77 => ?_) (fun c_77 => ?_)
                  · have cm : c = n_nn := by omega
                    refine a_iload_4 (pc := 240) dX12_rooms_240 ?_
                    exact a_iret (pc := 242) dX12_rooms_242 rfl (zf hz) (k1 n_dd n_nn (by omega) rfl rfl (by omega) (by omega) (Or.inr c_53) _ f c (by rw [if_pos ⟨c_53, hi0⟩, i_9, hFC, hR, show n_nn - c = 0 by omega, rms]; exact congrArg (Prod.mk f) (Nat.zero_add c).symm) hm1)
                  · refine a_iloadn_2 (pc := 80) dX12_rooms_80 ?_
                    refine a_aloadn_0 (pc := 81) dX12_rooms_81 ?_
                    refine mg_74 hm1 rfl dX12_rooms_82 ?_
                    refine a_iloadn_1 (pc := 85) dX12_rooms_85 ?_
                    refine ml_many (x := gMany b n_dd) hm1 dX12_rooms_86 (by omega) rfl ?_
                    refine a_iconst (pc := 87) (v := nI 3) dX12_rooms_87 (by decide) ?_
                    refine a_isub (pc := 88) dX12_rooms_88 ?_
                    refine a_iconst (pc := 89) (v := nI 3) dX12_rooms_89 (by decide) ?_
                    refine a_iload_4 (pc := 90) dX12_rooms_90 ?_
                    refine n_imul dX12_rooms_92 ?_
                    refine a_isub (pc := 93) dX12_rooms_93 ?_
                    refine a_icmp_gt (pc := 94) (tgt := 101) dX12_rooms_94 (by decide) (fun c_94 => ?_) (fun c_94 => ?_)
                    · have hT := rowT_no (el := (elO b n_dd)) (sz := (gMany b n_dd)) (i := i9 + 3 * c) (fun z => by exact (cmp3 (by omega) (by omega) (by omega)).mp c_94 z.1)
                      have hR2 := hR
                      rw [rms_no (by omega) hT] at hR2
                      refine a_iconst (pc := 101) (v := nI 0) dX12_rooms_101 (by decide) ?_
                      refine a_topi (bI false) (by decide) ?_
                      refine a_istore_5 (pc := 102) dX12_rooms_102 (by decide) (by first | rfl | trivial) ?_
                      refine a_bipush (pc := 104) (v := nI 60) dX12_rooms_104 (by decide) ?_
                      refine a_iloadn_1 (pc := 106) dX12_rooms_106 ?_
                      refine n_imul dX12_rooms_107 ?_
                      refine a_iloadn_2 (pc := 108) dX12_rooms_108 ?_
                      refine n_iadd dX12_rooms_109 ?_
                      refine a_iconst (pc := 110) (v := nI 3) dX12_rooms_110 (by decide) ?_
                      refine a_iload_4 (pc := 111) dX12_rooms_111 ?_
                      refine n_imul dX12_rooms_113 ?_
                      refine n_iadd dX12_rooms_114 ?_
                      refine a_istore_6 (pc := 115) dX12_rooms_115 (by decide) (by first | rfl | trivial) ?_
                      refine a_iload_5 (pc := 117) dX12_rooms_117 ?_
                      refine b_if_eq (pc := 119) (tgt := 177) dX12_rooms_119 (by decide) (fun c_119 => ?_) (fun c_119 => by cases c_119)
                      refine a_iconst (pc := 177) (v := nI 0) dX12_rooms_177 (by decide) ?_
                      refine a_topi (bI false) (by decide) ?_
                      refine a_istore_5 (pc := 178) dX12_rooms_178 (by decide) (by first | rfl | trivial) ?_
                      refine a_iload_5 (pc := 180) dX12_rooms_180 ?_
                      refine b_if_eq (pc := 182) (tgt := 237) dX12_rooms_182 (by decide) (fun c_182 => ?_) (fun c_182 => by cases c_182)
                      refine a_goto (pc := 237) (tgt := 69) dX12_rooms_237 (by decide) ?_
                      refine a_ls (ls' := [some _, some _, some _, some _, some _, some _, none, none]) ⟨rfl, rfl, rfl, rfl, rfl, rfl, trivial⟩ ?_
                      first
                        | exact ih (c + 1) _ _ (by omega) (by omega) (by rw [hR2, show i9 + 3 * c + 3 = i9 + 3 * (c + 1) by omega]) hm1
                        | exact lz c _ _ (by omega) (hR2.trans (congrArg (Prod.mk f) (Nat.zero_add c))) hm1
                    · have c3 : i9 + 3 * c + 3 ≤ gMany b n_dd := Classical.byContradiction (fun z => c_94 ((cmp3 (by omega) (by omega) (by omega)).mpr z))
                      refine a_iconst (pc := 97) (v := nI 1) dX12_rooms_97 (by decide) ?_
                      refine a_topi (bI true) (by decide) ?_
                      refine a_goto (pc := 98) (tgt := 102) dX12_rooms_98 (by decide) ?_
                      refine a_istore_5 (pc := 102) dX12_rooms_102 (by decide) (by first | rfl | trivial) ?_
                      refine a_bipush (pc := 104) (v := nI 60) dX12_rooms_104 (by decide) ?_
                      refine a_iloadn_1 (pc := 106) dX12_rooms_106 ?_
                      refine n_imul dX12_rooms_107 ?_
                      refine a_iloadn_2 (pc := 108) dX12_rooms_108 ?_
                      refine n_iadd dX12_rooms_109 ?_
                      refine a_iconst (pc := 110) (v := nI 3) dX12_rooms_110 (by decide) ?_
                      refine a_iload_4 (pc := 111) dX12_rooms_111 ?_
                      refine n_imul dX12_rooms_113 ?_
                      refine n_iadd dX12_rooms_114 ?_
                      refine a_istore_6 (pc := 115) dX12_rooms_115 (by decide) (by first | rfl | trivial) ?_
                      refine a_iload_5 (pc := 117) dX12_rooms_117 ?_
                      refine b_if_eq (pc := 119) (tgt := 177) dX12_rooms_119 (by decide) (fun c_119 => by cases c_119) (fun c_119 => ?_)
                      refine a_aloadn_0 (pc := 122) dX12_rooms_122 ?_
                      refine mg_77 hm1 rfl dX12_rooms_123 ?_
                      refine a_iload_6 (pc := 126) dX12_rooms_126 ?_
                      refine ml_items (x := gItems b (60 * n_dd + i9 + (3 * c))) hm1 dX12_rooms_128 (by omega) rfl ?_
                      refine cs_X12_106 (pc := 129) rfl dX12_rooms_129 (Nat.le_of_ble_eq_true rfl) ?_
                      refine m_isRoom (by omega) hz ?_
                      refine b_if_eq (pc := 132) (tgt := 177) dX12_rooms_132 (by decide) (fun c_132 => ?_) (fun c_132 => ?_)
                      · have hT := rowT_no (el := (elO b n_dd)) (sz := (gMany b n_dd)) (i := i9 + 3 * c) (fun z => by have z2 : inL 0 _ (gItems b (60 * n_dd + (i9 + 3 * c))) = true := z.2.1; rw [show 60 * n_dd + (i9 + 3 * c) = 60 * n_dd + i9 + 3 * c by omega] at z2; exact absurd (z2.symm.trans (show inL 0 (lN 35) _ = false from c_132)) (by simp))
                        have hR2 := hR
                        rw [rms_no (by omega) hT] at hR2
                        refine a_iconst (pc := 177) (v := nI 0) dX12_rooms_177 (by decide) ?_
                        refine a_topi (bI false) (by decide) ?_
                        refine a_istore_5 (pc := 178) dX12_rooms_178 (by decide) (by first | rfl | trivial) ?_
                        refine a_iload_5 (pc := 180) dX12_rooms_180 ?_
                        refine b_if_eq (pc := 182) (tgt := 237) dX12_rooms_182 (by decide) (fun c_182 => ?_) (fun c_182 => by cases c_182)
                        refine a_goto (pc := 237) (tgt := 69) dX12_rooms_237 (by decide) ?_
                        refine a_ls (ls' := [some _, some _, some _, some _, some _, some _, none, none]) ⟨rfl, rfl, rfl, rfl, rfl, rfl, trivial⟩ ?_
                        first
                          | exact ih (c + 1) _ _ (by omega) (by omega) (by rw [hR2, show i9 + 3 * c + 3 = i9 + 3 * (c + 1) by omega]) hm1
                          | exact lz c _ _ (by omega) (hR2.trans (congrArg (Prod.mk f) (Nat.zero_add c))) hm1
                      · refine a_aloadn_0 (pc := 135) dX12_rooms_135 ?_
                        refine mg_77 hm1 rfl dX12_rooms_136 ?_
                        refine a_iload_6 (pc := 139) dX12_rooms_139 ?_
                        refine a_iconst (pc := 141) (v := nI 1) dX12_rooms_141 (by decide) ?_
                        refine n_iadd dX12_rooms_142 ?_
                        refine ml_items (x := gItems b (60 * n_dd + i9 + (3 * c) + 1)) hm1 dX12_rooms_143 (by omega) rfl ?_
                        refine a_lconst (pc := 144) (v := 0) dX12_rooms_144 (by decide) ?_
                        refine a_ldc2 (pc := 145) dX12_rooms_145 w_1142 ?_
                        refine cs_X12_96 (pc := 148) rfl dX12_rooms_148 (Nat.le_of_ble_eq_true rfl) ?_
                        refine m_within (by omega) hz ?_
                        refine b_if_eq (pc := 151) (tgt := 177) dX12_rooms_151 (by decide) (fun c_151 => ?_) (fun c_151 => ?_)
                        · have hT := rowT_no (el := (elO b n_dd)) (sz := (gMany b n_dd)) (i := i9 + 3 * c) (fun z => by have z2 : inL 0 _ (gItems b (60 * n_dd + (i9 + 3 * c + 1))) = true := z.2.2.1; rw [show 60 * n_dd + (i9 + 3 * c + 1) = 60 * n_dd + i9 + 3 * c + 1 by omega] at z2; exact absurd (z2.symm.trans (show inL 0 (lN 99) _ = false from c_151)) (by simp))
                          have hR2 := hR
                          rw [rms_no (by omega) hT] at hR2
                          refine a_iconst (pc := 177) (v := nI 0) dX12_rooms_177 (by decide) ?_
                          refine a_topi (bI false) (by decide) ?_
                          refine a_istore_5 (pc := 178) dX12_rooms_178 (by decide) (by first | rfl | trivial) ?_
                          refine a_iload_5 (pc := 180) dX12_rooms_180 ?_
                          refine b_if_eq (pc := 182) (tgt := 237) dX12_rooms_182 (by decide) (fun c_182 => ?_) (fun c_182 => by cases c_182)
                          refine a_goto (pc := 237) (tgt := 69) dX12_rooms_237 (by decide) ?_
                          refine a_ls (ls' := [some _, some _, some _, some _, some _, some _, none, none]) ⟨rfl, rfl, rfl, rfl, rfl, rfl, trivial⟩ ?_
                          first
                            | exact ih (c + 1) _ _ (by omega) (by omega) (by rw [hR2, show i9 + 3 * c + 3 = i9 + 3 * (c + 1) by omega]) hm1
                            | exact lz c _ _ (by omega) (hR2.trans (congrArg (Prod.mk f) (Nat.zero_add c))) hm1
                        · refine a_aloadn_0 (pc := 154) dX12_rooms_154 ?_
                          refine mg_77 hm1 rfl dX12_rooms_155 ?_
                          refine a_iload_6 (pc := 158) dX12_rooms_158 ?_
                          refine a_iconst (pc := 160) (v := nI 2) dX12_rooms_160 (by decide) ?_
                          refine n_iadd dX12_rooms_161 ?_
                          refine ml_items (x := gItems b (60 * n_dd + i9 + (3 * c) + 2)) hm1 dX12_rooms_162 (by omega) rfl ?_
                          refine a_lconst (pc := 163) (v := 0) dX12_rooms_163 (by decide) ?_
                          refine a_ldc2 (pc := 164) dX12_rooms_164 w_1143 ?_
                          refine cs_X12_96 (pc := 167) rfl dX12_rooms_167 (Nat.le_of_ble_eq_true rfl) ?_
                          refine m_within (by omega) hz ?_
                          refine b_if_eq (pc := 170) (tgt := 177) dX12_rooms_170 (by decide) (fun c_170 => ?_) (fun c_170 => ?_)
                          · have hT := rowT_no (el := (elO b n_dd)) (sz := (gMany b n_dd)) (i := i9 + 3 * c) (fun z => by have z2 : inL 0 _ (gItems b (60 * n_dd + (i9 + 3 * c + 2))) = true := z.2.2.2; rw [show 60 * n_dd + (i9 + 3 * c + 2) = 60 * n_dd + i9 + 3 * c + 2 by omega] at z2; exact absurd (z2.symm.trans (show inL 0 (lN 9) _ = false from c_170)) (by simp))
                            have hR2 := hR
                            rw [rms_no (by omega) hT] at hR2
                            refine a_iconst (pc := 177) (v := nI 0) dX12_rooms_177 (by decide) ?_
                            refine a_topi (bI false) (by decide) ?_
                            refine a_istore_5 (pc := 178) dX12_rooms_178 (by decide) (by first | rfl | trivial) ?_
                            refine a_iload_5 (pc := 180) dX12_rooms_180 ?_
                            refine b_if_eq (pc := 182) (tgt := 237) dX12_rooms_182 (by decide) (fun c_182 => ?_) (fun c_182 => by cases c_182)
                            refine a_goto (pc := 237) (tgt := 69) dX12_rooms_237 (by decide) ?_
                            refine a_ls (ls' := [some _, some _, some _, some _, some _, some _, none, none]) ⟨rfl, rfl, rfl, rfl, rfl, rfl, trivial⟩ ?_
                            first
                              | exact ih (c + 1) _ _ (by omega) (by omega) (by rw [hR2, show i9 + 3 * c + 3 = i9 + 3 * (c + 1) by omega]) hm1
                              | exact lz c _ _ (by omega) (hR2.trans (congrArg (Prod.mk f) (Nat.zero_add c))) hm1
                          · refine a_iconst (pc := 173) (v := nI 1) dX12_rooms_173 (by decide) ?_
                            refine a_topi (bI true) (by decide) ?_
                            refine a_goto (pc := 174) (tgt := 178) dX12_rooms_174 (by decide) ?_
                            refine a_istore_5 (pc := 178) dX12_rooms_178 (by decide) (by first | rfl | trivial) ?_
                            refine a_iload_5 (pc := 180) dX12_rooms_180 ?_
                            refine b_if_eq (pc := 182) (tgt := 237) dX12_rooms_182 (by decide) (fun c_182 => by cases c_182) (fun c_182 => ?_)
                            obtain ⟨r9, hr9, er⟩ := inL_of (hi := 35) (by decide) c_132
                            obtain ⟨w9, hw9, ew⟩ := inL_of (hi := 99) (by decide) c_151
                            obtain ⟨g9, hg9, eg⟩ := inL_of (hi := 9) (by decide) c_170
                            have hT := rowT_ok (el := (elO b n_dd)) (sz := (gMany b n_dd)) (i := i9 + 3 * c) (by omega) hr9 hw9 hg9 (by show gItems b _ = _; rw [← er, Nat.add_assoc]) (by show gItems b _ = _; rw [← ew]; congr 1; omega) (by show gItems b _ = _; rw [← eg]; congr 1; omega)
                            have hR2 := hR
                            rw [rms_ok (by omega) hT] at hR2
                            have hR2 := pr_s hR2
                            refine a_aloadn_0 (pc := 185) dX12_rooms_185 ?_
                            refine mg_9 hm1 rfl dX12_rooms_186 ?_
                            refine a_aloadn_0 (pc := 189) dX12_rooms_189 ?_
                            refine mg_77 hm1 rfl dX12_rooms_190 ?_
                            refine a_iload_6 (pc := 193) dX12_rooms_193 ?_
                            refine ml_items (x := lN r9) hm1 dX12_rooms_195 (by omega) er ?_
                            refine n_l2i dX12_rooms_196 ?_
                            refine a_aloadn_0 (pc := 197) dX12_rooms_197 ?_
                            refine mg_77 hm1 rfl dX12_rooms_198 ?_
                            refine a_iload_6 (pc := 201) dX12_rooms_201 ?_
                            refine a_iconst (pc := 203) (v := nI 1) dX12_rooms_203 (by decide) ?_
                            refine n_iadd dX12_rooms_204 ?_
                            refine ml_items (x := lN w9) hm1 dX12_rooms_205 (by omega) ew ?_
                            refine n_l2i dX12_rooms_206 ?_
                            refine ms_may (j := r9) (x := w9) hm1 dX12_rooms_207 (by omega) (fun h10 hm10 => ?_)
                            refine a_aloadn_0 (pc := 208) dX12_rooms_208 ?_
                            refine mg_9 hm10 rfl dX12_rooms_209 ?_
                            refine a_bipush (pc := 212) (v := nI 36) dX12_rooms_212 (by decide) ?_
                            refine a_aloadn_0 (pc := 214) dX12_rooms_214 ?_
                            refine mg_77 hm10 rfl dX12_rooms_215 ?_
                            refine a_iload_6 (pc := 218) dX12_rooms_218 ?_
                            refine ml_items (x := lN r9) hm10 dX12_rooms_220 (by omega) er ?_
                            refine n_l2i dX12_rooms_221 ?_
                            refine n_iadd dX12_rooms_222 ?_
                            refine a_aloadn_0 (pc := 223) dX12_rooms_223 ?_
                            refine mg_77 hm10 rfl dX12_rooms_224 ?_
                            refine a_iload_6 (pc := 227) dX12_rooms_227 ?_
                            refine a_iconst (pc := 229) (v := nI 2) dX12_rooms_229 (by decide) ?_
                            refine n_iadd dX12_rooms_230 ?_
                            refine ml_items (x := lN g9) hm10 dX12_rooms_231 (by omega) eg ?_
                            refine n_l2i dX12_rooms_232 ?_
                            refine ms_may (j := (36 + r9)) (x := g9) hm10 dX12_rooms_233 (by omega) (fun h11 hm11 => ?_)
                            refine a_iinc_4 (pc := 234) (v := nI (c + 1)) dX12_rooms_234 (nI_add _ _) (by decide) (by first | rfl | trivial) ?_
                            refine a_goto (pc := 237) (tgt := 69) dX12_rooms_237 (by decide) ?_
                            refine a_ls (ls' := [some _, some _, some _, some _, some _, some _, none, none]) ⟨rfl, rfl, rfl, rfl, rfl, rfl, trivial⟩ ?_
                            first
                              | exact ih (c + 1) _ _ (by omega) (by omega) (by rw [hR2, show i9 + 3 * c + 3 = i9 + 3 * (c + 1) by omega]) hm11
                              | exact lz c _ _ (by omega) (hR2.trans (congrArg (Prod.mk f) (Nat.zero_add c))) hm11
              refine a_iconst (pc := 62) (v := nI 1) dX12_rooms_62 (by decide) ?_
              refine a_topi (bI true) (by decide) ?_
              refine a_goto (pc := 63) (tgt := 67) dX12_rooms_63 (by decide) ?_
              refine a_istore_5 (pc := 67) dX12_rooms_67 (by decide) (by first | rfl | trivial) ?_
              exact lt 22 0 _ _ (by omega) (by omega) (by rw [Nat.sub_zero, Nat.mul_zero, Nat.add_zero, hFC]; rfl) hm
        · refine a_bipush (pc := 41) (v := (-12)) dX12_rooms_41 (by decide) ?_
          exact a_iret (pc := 43) dX12_rooms_43 rfl (zf hz) (k2 n_dd (by omega) rfl ⟨n_nn, rfl, by omega, by omega⟩ (by simpa using c_27) c_38)
    · refine a_iconst (pc := 19) (v := (-1)) dX12_rooms_19 (by decide) ?_
      exact a_iret (pc := 20) dX12_rooms_20 rfl (zf hz) (k0 (by simp [c_4, i_dd, c_16]))
