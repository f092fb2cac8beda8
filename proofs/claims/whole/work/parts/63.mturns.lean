/-! the reference: BY TURNS -/
def wB (g : Bool) (v : Cv) (r : Nat) : Nat := if g then min 99 (cW v r + 12) else 0
/-- the city behind the first e deeds -/
def dnx (g : Bool) (rs : Nat) (u : Cv) (x : Nat) : Cv := if x < 6 then csW u (rs + x) (wB g u (rs + x)) else u
def dapp (D : Nat → Nat) (rs : Nat) : Nat → Cv → Cv
  | 0, v => v
  | e + 1, v => dnx (decide (e % 2 = 0)) rs (dapp D rs e v) (D e)
def rfold (f : Cv → Nat) (g : Bool) (rs : Nat) (v : Cv) : Nat → Nat
  | 0 => f v
  | k + 1 => if (g && cK v (rs + k)) = true then rfold f g rs v k else if betB g (f (csW v (rs + k) (wB g v (rs + k)))) (rfold f g rs v k) = true then f (csW v (rs + k) (wB g v (rs + k))) else rfold f g rs v k
def outR (F : Lf) (rs t : Nat) : Nat → Bool → Cv → Nat
  | 0, _, v => ctn (cK (hrs F t v)) 36
  | j + 1, g, v => rfold (outR F rs t j (!g)) g rs v 6
theorem rfold_le {f : Cv → Nat} {g : Bool} {rs : Nat} {v : Cv} (h : ∀ u, f u ≤ 36) : ∀ k, rfold f g rs v k ≤ 36
  | 0 => h v
  | k + 1 => by
    have ih := rfold_le (g := g) (rs := rs) (v := v) h k
    rw [rfold]
    split
    · exact ih
    · split
      · exact h _
      · exact ih
theorem outR_le {F : Lf} {rs t : Nat} : ∀ j g v, outR F rs t j g v ≤ 36
  | 0, _, _ => ctn_le _ _
  | j + 1, g, v => rfold_le (fun u => outR_le j (!g) u) 6
section RFs
variable {f : Cv → Nat} {g : Bool} {rs k : Nat} {v : Cv}
theorem rf_skip (h : (g && cK v (rs + k)) = true) : rfold f g rs v (k + 1) = rfold f g rs v k := if_pos h
theorem rf_new (h : (g && cK v (rs + k)) = false) (h2 : betB g (f (csW v (rs + k) (wB g v (rs + k)))) (rfold f g rs v k) = true) : rfold f g rs v (k + 1) = f (csW v (rs + k) (wB g v (rs + k))) := (if_neg (by rw [h]; simp)).trans (if_pos h2)
theorem rf_old (h : (g && cK v (rs + k)) = false) (h2 : ¬ betB g (f (csW v (rs + k) (wB g v (rs + k)))) (rfold f g rs v k) = true) : rfold f g rs v (k + 1) = rfold f g rs v k := (if_neg (by rw [h]; simp)).trans (if_neg h2)
end RFs
theorem dnx_K (g : Bool) (rs : Nat) (u : Cv) (x : Nat) : cK (dnx g rs u x) = cK u := by
  unfold dnx
  split <;> rfl
theorem dapp_K (D : Nat → Nat) (rs : Nat) (v : Cv) : ∀ e, cK (dapp D rs e v) = cK v
  | 0 => rfl
  | e + 1 => (dnx_K _ _ _ _).trans (dapp_K D rs v e)
theorem dapp_congr {D D1 : Nat → Nat} {rs : Nat} {v : Cv} : ∀ e, (∀ i, i < e → D1 i = D i) → dapp D1 rs e v = dapp D rs e v
  | 0, _ => rfl
  | e + 1, h => by rw [dapp, dapp, dapp_congr e (fun i hi => h i (by omega)), h e (by omega)]
theorem wB_le (g : Bool) (v : Cv) (r : Nat) : wB g v r ≤ 99 := by
  unfold wB
  split <;> omega
theorem okC_dnx {g : Bool} {rs : Nat} {u : Cv} {x : Nat} (h : okC u) (hr : rs + 5 < 36) : okC (dnx g rs u x) := by
  unfold dnx
  split
  · exact okC_W h (by omega) (wB_le _ _ _)
  · exact h
theorem okC_dapp {D : Nat → Nat} {rs : Nat} {v : Cv} (h : okC v) (hr : rs + 5 < 36) : ∀ e, okC (dapp D rs e v)
  | 0 => h
  | e + 1 => okC_dnx (okC_dapp h hr e) hr

set_option maxRecDepth 100000 in
set_option maxHeartbeats 4000000 in
theorem m_playsFrom {G : Cx} {h0 : List va_E} {b : MB} {p0 : MP} {t0 : MT} {o0 : MO} {v : Cv} {F : Lf} {y m tt : Nat} (hz : gz G = false) (hb : BV (b, p0, t0, o0) v) (okv : okC v) (hL : LM b F) (hy : y < 6) (hm3 : m ≤ 3) (ht : tt < 1000) : ∀ (j : Nat) {d : Nat} {h : List va_E} {p : MP} {t : MT} {o : MO} {e : Nat} {Q : Option Value → List va_E → Prop}, 80 + j ≤ d → MS G h0 h (b, p, t, o) → e + j = m → (∀ i, i < e → mDid (b, p, t, o) i ≤ 6) → (∀ h1 p1 t1 D1, (∀ i, i < e → D1 i = mDid (b, p, t, o) i) → MS G h0 h1 (sDid (b, p1, t1, o) D1) → Q (some (.int (nI (outR F (6 * y) tt j (decide (e % 2 = 0)) (dapp (mDid (b, p, t, o)) (6 * y) e v))))) h1) → AM G yX12_playsFrom cX12_playsFrom 8 (some .int) d 0 0 [.ref (gB G + 80), .int (nI y), .int (nI e), .int (nI m), .int (nI tt)] h Q := by
  intro j
  induction j with
  | zero =>
    intro d h p t o e Q hd hm hej h6 k
    obtain ⟨d, rfl, he⟩ := dpos hd
    obtain ⟨D, hD⟩ : ∃ D, D = mDid (b, p, t, o) := ⟨_, rfl⟩
    obtain ⟨u, hu⟩ : ∃ u : Nat → Cv, u = fun i => dapp D (6 * y) i v := ⟨_, rfl⟩
    have oku : ∀ i, okC (u i) := fun i => by rw [hu]; exact okC_dapp okv (by omega) i
    have us : ∀ i, u (i + 1) = dnx (decide (i % 2 = 0)) (6 * y) (u i) (D i) := fun i => by rw [hu]; rfl
    have e0 : e = m := by omega
    have ke : outR F (6 * y) tt 0 (decide (e % 2 = 0)) (dapp (mDid (b, p, t, o)) (6 * y) e v) = ctn (cK (hrs F tt (u m))) 36 := by rw [← hD, hu, e0]; rfl
    rw [ke] at k
    have lp : ∀ (n : Nat) (i : Nat) (h1 : List va_E) (p1 : MP) (t1 : MT), m - i < n → (i ≤ m) → (MS G h0 h1 (b, p1, t1, o)) → (HV (b, p1, t1, o) (u i)) → AW G yX12_playsFrom cX12_playsFrom 8 (some .int) (rmx (d + 1) 0 0) (ZQ G 0 0 (h.length + 0) Q) 0 0 12 [some (.ref (gB G + 80)), some (.int (nI (y))), some (.int (nI (e))), some (.int (nI (m))), some (.int (nI (tt))), some (.int (nI (i))), none, none] [] h1 := by
      intro n
      induction n with
      | zero => intro i h1 p1 t1 hn; exact absurd hn (Nat.not_lt_zero _)
      | succ n ih =>
        intro i h1 p1 t1 hn hi hm1 hv1
        refine a_iload_5 (pc := 12) dX12_playsFrom_12 ?_
        refine a_iloadn_3 (pc := 14) dX12_playsFrom_14 ?_
        refine n_icmp_ge (tgt := 83) dX12_playsFrom_15 (by decide) (by omega) (by omega) (fun c_15 => ?_) (fun c_15 => ?_)
        · have im : i = m := by omega
          subst im
          refine a_aloadn_0 (pc := 83) dX12_playsFrom_83 ?_
          refine a_iload_4 (pc := 84) dX12_playsFrom_84 ?_
          refine cv_X12_228 (pc := 86) rfl dX12_playsFrom_86 hm1.2.2.1 (Nat.le_of_ble_eq_true rfl) ?_
          refine m_goesHours (by omega) hz hm1 hv1 ((oku i)) hL (by omega) (fun h4 p4 t4 hm4 hv4 => ?_)
          refine a_aloadn_0 (pc := 89) dX12_playsFrom_89 ?_
          refine cv_X12_232 (pc := 90) rfl dX12_playsFrom_90 hm4.2.2.1 (Nat.le_of_ble_eq_true rfl) ?_
          refine m_darkMany (by omega) hz hm4 hv4 ?_
          exact a_iret (pc := 93) dX12_playsFrom_93 rfl (zf hz) (k _ _ _ (mDid (b, p, t, o)) (fun _ _ => rfl) hm4)
        · refine a_aloadn_0 (pc := 18) dX12_playsFrom_18 ?_
          have d6 : D i ≤ 6 := by rw [hD]; exact h6 i (by omega)
          refine mg_53 hm1 rfl dX12_playsFrom_19 ?_
          refine a_iload_5 (pc := 22) dX12_playsFrom_22 ?_
          refine ml_did (x := D i) hm1 dX12_playsFrom_24 (by omega) (by rw [hD]) ?_
          refine a_bipush (pc := 25) (v := nI 6) dX12_playsFrom_25 (by decide) ?_
          refine n_icmp_ge (tgt := 77) dX12_playsFrom_27 (by decide) (by omega) (by decide) (fun c_27 => ?_) (fun c_27 => ?_)
          · have hv9 : HV (b, p1, t1, o) (u (i + 1)) := by
              rw [us i, dnx, if_neg (by omega)]; exact hv1
            refine a_iinc_5 (pc := 77) (v := nI (i + 1)) dX12_playsFrom_77 (nI_add _ _) (by decide) (by first | rfl | trivial) ?_
            refine a_goto (pc := 80) (tgt := 12) dX12_playsFrom_80 (by decide) ?_
            exact ih (i + 1) _ _ _ (by omega) (by omega) hm1 hv9
          · have w99 := (oku i).1 (6 * y + D i)
            refine a_bipush (pc := 30) (v := nI 6) dX12_playsFrom_30 (by decide) ?_
            refine a_iloadn_1 (pc := 32) dX12_playsFrom_32 ?_
            refine n_imul dX12_playsFrom_33 ?_
            refine a_aloadn_0 (pc := 34) dX12_playsFrom_34 ?_
            refine mg_53 hm1 rfl dX12_playsFrom_35 ?_
            refine a_iload_5 (pc := 38) dX12_playsFrom_38 ?_
            refine ml_did (x := D i) hm1 dX12_playsFrom_40 (by omega) (by rw [hD]) ?_
            refine n_iadd dX12_playsFrom_41 ?_
            refine a_istore_6 (pc := 42) dX12_playsFrom_42 (by decide) (by first | rfl | trivial) ?_
            refine a_aloadn_0 (pc := 44) dX12_playsFrom_44 ?_
            refine mg_31 hm1 rfl dX12_playsFrom_45 ?_
            refine a_iload_6 (pc := 48) dX12_playsFrom_48 ?_
            refine a_iload_5 (pc := 50) dX12_playsFrom_50 ?_
            refine a_iconst (pc := 52) (v := nI 2) dX12_playsFrom_52 (by decide) ?_
            refine n_irem dX12_playsFrom_53 (by omega) (by decide) (by decide) ?_
            refine n_if_ne (tgt := 75) dX12_playsFrom_54 (by decide) (by omega) (fun c_54 => ?_) (fun c_54 => ?_)
            · refine a_iconst (pc := 75) (v := nI 0) dX12_playsFrom_75 (by decide) ?_
              refine ms_wax (j := (6 * y + (D i))) (x := 0) hm1 dX12_playsFrom_76 (by omega) (fun h4 hm4 => ?_)
              have hv9 : HV (sWax (b, p1, t1, o) (va_up (mWax (b, p1, t1, o)) (6 * y + D i) (0))) (u (i + 1)) := by
                rw [us i, dnx, if_pos (by omega), show wB (decide (i % 2 = 0)) (u i) (6 * y + D i) = 0 by rw [wB, decide_eq_false (by omega)]; rfl]
                exact HV_W hv1
              refine a_iinc_5 (pc := 77) (v := nI (i + 1)) dX12_playsFrom_77 (nI_add _ _) (by decide) (by first | rfl | trivial) ?_
              refine a_goto (pc := 80) (tgt := 12) dX12_playsFrom_80 (by decide) ?_
              refine a_ls (ls' := [some _, some _, some _, some _, some _, some _, none, none]) ⟨rfl, rfl, rfl, rfl, rfl, rfl, trivial⟩ ?_
              exact ih (i + 1) _ _ _ (by omega) (by omega) hm4 hv9
            · refine a_bipush (pc := 57) (v := nI 99) dX12_playsFrom_57 (by decide) ?_
              refine a_aloadn_0 (pc := 59) dX12_playsFrom_59 ?_
              refine mg_31 hm1 rfl dX12_playsFrom_60 ?_
              refine a_iload_6 (pc := 63) dX12_playsFrom_63 ?_
              refine ml_wax (x := cW ((u i)) (6 * y + (D i))) hm1 dX12_playsFrom_65 (by omega) (hv1.1 (6 * y + (D i)) (by omega)).1 ?_
              refine a_bipush (pc := 66) (v := nI 12) dX12_playsFrom_66 (by decide) ?_
              refine n_iadd dX12_playsFrom_68 ?_
              refine cs_X12_257 (pc := 69) rfl dX12_playsFrom_69 (Nat.le_of_ble_eq_true rfl) ?_
              refine m_least (by omega) hz (by omega) (by omega) ?_
              refine a_goto (pc := 72) (tgt := 76) dX12_playsFrom_72 (by decide) ?_
              refine ms_wax (j := (6 * y + (D i))) (x := min 99 (cW ((u i)) (6 * y + (D i)) + 12)) hm1 dX12_playsFrom_76 (by omega) (fun h4 hm4 => ?_)
              have hv9 : HV (sWax (b, p1, t1, o) (va_up (mWax (b, p1, t1, o)) (6 * y + D i) (min 99 (cW (u i) (6 * y + D i) + 12)))) (u (i + 1)) := by
                rw [us i, dnx, if_pos (by omega), show wB (decide (i % 2 = 0)) (u i) (6 * y + D i) = min 99 (cW (u i) (6 * y + D i) + 12) by rw [wB, decide_eq_true (by omega)]; rfl]
                exact HV_W hv1
              refine a_iinc_5 (pc := 77) (v := nI (i + 1)) dX12_playsFrom_77 (nI_add _ _) (by decide) (by first | rfl | trivial) ?_
              refine a_goto (pc := 80) (tgt := 12) dX12_playsFrom_80 (by decide) ?_
              refine a_ls (ls' := [some _, some _, some _, some _, some _, some _, none, none]) ⟨rfl, rfl, rfl, rfl, rfl, rfl, trivial⟩ ?_
              exact ih (i + 1) _ _ _ (by omega) (by omega) hm4 hv9
    refine AM.of [some (.ref (gB G + 80)), some (.int (nI (y))), some (.int (nI (e))), some (.int (nI (m))), some (.int (nI (tt))), none, none, none] pnX12 (Nat.le_of_ble_eq_true rfl) (by simp [lsub, lvI, Value.category]) ?_
    refine a_iloadn_2 (pc := 0) dX12_playsFrom_0 ?_
    refine a_iloadn_3 (pc := 1) dX12_playsFrom_1 ?_
    refine n_icmp_ne (tgt := 94) dX12_playsFrom_2 (by decide) (by omega) (by omega) (fun c_2 => by omega) (fun c_2 => ?_)
    refine a_aloadn_0 (pc := 5) dX12_playsFrom_5 ?_
    refine cv_X12_220 (pc := 6) rfl dX12_playsFrom_6 hm.2.2.1 (Nat.le_of_ble_eq_true rfl) ?_
    refine m_begins (by omega) hz hm hb (fun h1 t1 hm1 hv1 => ?_)
    refine a_iconst (pc := 9) (v := nI 0) dX12_playsFrom_9 (by decide) ?_
    refine a_istore_5 (pc := 10) dX12_playsFrom_10 (by decide) (by first | rfl | trivial) ?_
    exact lp (m + 1) 0 _ _ _ (by omega) (by omega) hm1 (by rw [hu]; exact hv1)
  | succ j ihj =>
    intro d h p t o e Q hd hm hej h6 k
    obtain ⟨d, rfl, he⟩ := dpos hd
    obtain ⟨D, hD⟩ : ∃ D, D = mDid (b, p, t, o) := ⟨_, rfl⟩
    rw [← hD] at h6
    obtain ⟨g, hg⟩ : ∃ g : Bool, g = decide (e % 2 = 0) := ⟨_, rfl⟩
    have hg1 : decide ((e + 1) % 2 = 0) = !g := by
      rw [hg]
      by_cases q : e % 2 = 0
      · rw [decide_eq_true q, decide_eq_false (by omega)]; rfl
      · rw [decide_eq_false q, decide_eq_true (by omega)]; rfl
    obtain ⟨f, hf⟩ : ∃ f : Cv → Nat, f = outR F (6 * y) tt j (!g) := ⟨_, rfl⟩
    have f36 : ∀ u, f u ≤ 36 := fun u => by rw [hf]; exact outR_le j _ u
    obtain ⟨u, hu⟩ : ∃ u : Cv, u = dapp D (6 * y) e v := ⟨_, rfl⟩
    have uK : cK u = cK v := by rw [hu]; exact dapp_K D _ v e
    have ke : outR F (6 * y) tt (j + 1) (decide (e % 2 = 0)) (dapp (mDid (b, p, t, o)) (6 * y) e v) = rfold f g (6 * y) u 6 := by rw [← hD, ← hu, ← hg, hf]; rfl
    rw [ke] at k
    have k : ∀ h1 p1 t1 D1, (∀ i, i < e → D1 i = D i) → MS G h0 h1 (sDid (b, p1, t1, o) D1) → Q (some (.int (nI (rfold f g (6 * y) u 6)))) h1 := fun h1 p1 t1 D1 a1 a2 => k h1 p1 t1 D1 (fun i hi => by rw [← hD]; exact a1 i hi) a2
    have IH : ∀ {d : Nat} {h : List va_E} {p1 : MP} {t1 : MT} {D1 : Nat → Nat} {x : Nat} {Q : Option Value → List va_E → Prop}, 80 + j ≤ d → MS G h0 h (sDid (b, p1, t1, o) (va_up D1 e x)) → (∀ i, i < e → D1 i = D i) → x ≤ 6 → (∀ h2 p2 t2 D2, (∀ i, i < e → D2 i = D i) → MS G h0 h2 (sDid (b, p2, t2, o) D2) → Q (some (.int (nI (f (dnx g (6 * y) u x))))) h2) → AM G yX12_playsFrom cX12_playsFrom 8 (some .int) d 0 0 [.ref (gB G + 80), .int (nI y), .int (nI (e + 1)), .int (nI m), .int (nI tt)] h Q := by
      intro d h p1 t1 D1 x Q hd hm h1 hx k
      refine ihj (e := e + 1) hd hm (by omega) (fun i hi => ?_) (fun h2 p2 t2 D2 a1 a2 => ?_)
      · show va_up D1 e x i ≤ 6
        unfold va_up
        split
        · exact hx
        · rw [h1 i (by omega)]; exact h6 i (by omega)
      · have a1 : ∀ i, i < e + 1 → D2 i = va_up D1 e x i := a1
        have ed : dapp (va_up D1 e x) (6 * y) (e + 1) v = dnx g (6 * y) u x := by
          rw [dapp, ← hg, up_eq, dapp_congr (D := D) e (fun i hi => (up_ne (by omega)).trans (h1 i hi)), ← hu]
        have kk := k h2 p2 t2 D2 (fun i hi => (a1 i (by omega)).trans ((up_ne (by omega)).trans (h1 i hi))) a2
        rw [← ed, hf, ← hg1] at kk
        exact kk
    have lp : ∀ (n : Nat) (x be : Nat) (h1 : List va_E) (p1 : MP) (t1 : MT) (D1 : Nat → Nat), 6 - x < n → (x ≤ 6) → (be = rfold f g (6 * y) u x) → (∀ i, i < e → D1 i = D i) → (MS G h0 h1 (sDid (b, p1, t1, o) D1)) → AW G yX12_playsFrom cX12_playsFrom 8 (some .int) (rmx (d + 1) 0 0) (ZQ G 0 0 (h.length + 0) Q) 0 0 118 [some (.ref (gB G + 80)), some (.int (nI (y))), some (.int (nI (e))), some (.int (nI (m))), some (.int (nI (tt))), some (.int (nI (be))), some (.int (nI (x))), none] [] h1 := by
      intro n
      induction n with
      | zero => intro x be h1 p1 t1 D1 hn; exact absurd hn (Nat.not_lt_zero _)
      | succ n ih =>
        intro x be h1 p1 t1 D1 hn hx hb1 hD1 hm1
        refine a_iload_6 (pc := 118) dX12_playsFrom_118 ?_
        refine a_bipush (pc := 120) (v := nI 6) dX12_playsFrom_120 (by decide) ?_
        refine n_icmp_ge (tgt := 216) dX12_playsFrom_122 (by decide) (by omega) (by decide) (fun c_122 => ?_) (fun c_122 => ?_)
        · have x6 : x = 6 := by omega
          subst x6
          rw [← hb1] at k
          refine a_iload_5 (pc := 216) dX12_playsFrom_216 ?_
          exact a_iret (pc := 218) dX12_playsFrom_218 rfl (zf hz) (k _ _ _ _ hD1 hm1)
        · have tl := rfold_le (g := g) (rs := 6 * y) (v := u) f36 x
          rw [← hb1] at tl
          refine a_iloadn_2 (pc := 125) dX12_playsFrom_125 ?_
          refine a_iconst (pc := 126) (v := nI 2) dX12_playsFrom_126 (by decide) ?_
          refine n_irem dX12_playsFrom_127 (by omega) (by decide) (by decide) ?_
          refine a_iconst (pc := 128) (v := nI 1) dX12_playsFrom_128 (by decide) ?_
          refine n_icmp_eq (tgt := 150) dX12_playsFrom_129 (by decide) (by omega) (by decide) (fun c_129 => ?_) (fun c_129 => ?_)
          · have hs : (g && cK u (6 * y + x)) = false := by rw [hg, decide_eq_false (by omega)]; rfl
            refine a_aloadn_0 (pc := 150) dX12_playsFrom_150 ?_
            refine mg_53 hm1 rfl dX12_playsFrom_151 ?_
            refine a_iloadn_2 (pc := 154) dX12_playsFrom_154 ?_
            refine a_iload_6 (pc := 155) dX12_playsFrom_155 ?_
            refine ms_did (j := e) (x := x) hm1 dX12_playsFrom_157 (by omega) (fun h4 hm4 => ?_)
            refine a_aloadn_0 (pc := 158) dX12_playsFrom_158 ?_
            refine a_iloadn_1 (pc := 159) dX12_playsFrom_159 ?_
            refine a_iloadn_2 (pc := 160) dX12_playsFrom_160 ?_
            refine a_iconst (pc := 161) (v := nI 1) dX12_playsFrom_161 (by decide) ?_
            refine n_iadd dX12_playsFrom_162 ?_
            refine a_iloadn_3 (pc := 163) dX12_playsFrom_163 ?_
            refine a_iload_4 (pc := 164) dX12_playsFrom_164 ?_
            refine cv_X12_291 (pc := 166) rfl dX12_playsFrom_166 hm4.2.2.1 (Nat.le_of_ble_eq_true rfl) ?_
            refine IH (by omega) hm4 hD1 (by omega) (fun h5 p5 t5 D5 hD5 hm5 => ?_)
            have f36_5 := f36 (dnx g (6 * y) u x)
            have edx : dnx g (6 * y) u x = csW u (6 * y + x) (wB g u (6 * y + x)) := if_pos (by omega)
            rw [edx] at f36_5
            rw [edx]
            refine a_istore_7 (pc := 169) dX12_playsFrom_169 (by decide) (by first | rfl | trivial) ?_
            refine a_iloadn_2 (pc := 171) dX12_playsFrom_171 ?_
            refine a_iconst (pc := 172) (v := nI 2) dX12_playsFrom_172 (by decide) ?_
            refine n_irem dX12_playsFrom_173 (by omega) (by decide) (by decide) ?_
            refine n_if_ne (tgt := 194) dX12_playsFrom_174 (by decide) (by omega) (fun c_174 => ?_) (fun c_174 => ?_)
            · refine a_iload_7 (pc := 194) dX12_playsFrom_194 ?_
              refine a_iload_5 (pc := 196) dX12_playsFrom_196 ?_
              refine n_icmp_le (tgt := 206) dX12_playsFrom_198 (by decide) (by omega) (by omega) (fun c_198 => ?_) (fun c_198 => ?_)
              · have hM := rf_old (f := f) hs (nb_f (by rw [hg, decide_eq_false (by omega)]) (by rw [← hb1]; omega))
                refine a_iload_5 (pc := 206) dX12_playsFrom_206 ?_
                refine a_istore_5 (pc := 208) dX12_playsFrom_208 (by decide) (by first | rfl | trivial) ?_
                refine a_iinc_6 (pc := 210) (v := nI (x + 1)) dX12_playsFrom_210 (nI_add _ _) (by decide) (by first | rfl | trivial) ?_
                refine a_goto (pc := 213) (tgt := 118) dX12_playsFrom_213 (by decide) ?_
                refine a_ls (ls' := [some _, some _, some _, some _, some _, some _, some _, none, none]) ⟨rfl, rfl, rfl, rfl, rfl, rfl, rfl, trivial⟩ ?_
                exact ih (x + 1) _ _ _ _ _ (by omega) (by omega) (by first | (rw [hM]; exact hb1) | rw [hM]) (by first | exact hD1 | assumption) hm5
              · have hM := rf_new (f := f) hs (bet_f (by rw [hg, decide_eq_false (by omega)]) (by rw [← hb1]; omega))
                refine a_iload_7 (pc := 201) dX12_playsFrom_201 ?_
                refine a_goto (pc := 203) (tgt := 208) dX12_playsFrom_203 (by decide) ?_
                refine a_istore_5 (pc := 208) dX12_playsFrom_208 (by decide) (by first | rfl | trivial) ?_
                refine a_iinc_6 (pc := 210) (v := nI (x + 1)) dX12_playsFrom_210 (nI_add _ _) (by decide) (by first | rfl | trivial) ?_
                refine a_goto (pc := 213) (tgt := 118) dX12_playsFrom_213 (by decide) ?_
                refine a_ls (ls' := [some _, some _, some _, some _, some _, some _, some _, none, none]) ⟨rfl, rfl, rfl, rfl, rfl, rfl, rfl, trivial⟩ ?_
                exact ih (x + 1) _ _ _ _ _ (by omega) (by omega) (by first | (rw [hM]; exact hb1) | rw [hM]) (by first | exact hD1 | assumption) hm5
            · refine a_iload_7 (pc := 177) dX12_playsFrom_177 ?_
              refine a_iload_5 (pc := 179) dX12_playsFrom_179 ?_
              refine n_icmp_ge (tgt := 189) dX12_playsFrom_181 (by decide) (by omega) (by omega) (fun c_181 => ?_) (fun c_181 => ?_)
              · have hM := rf_old (f := f) hs (nb_t (by rw [hg, decide_eq_true (by omega)]) (by rw [← hb1]; omega))
                refine a_iload_5 (pc := 189) dX12_playsFrom_189 ?_
                refine a_goto (pc := 191) (tgt := 208) dX12_playsFrom_191 (by decide) ?_
                refine a_istore_5 (pc := 208) dX12_playsFrom_208 (by decide) (by first | rfl | trivial) ?_
                refine a_iinc_6 (pc := 210) (v := nI (x + 1)) dX12_playsFrom_210 (nI_add _ _) (by decide) (by first | rfl | trivial) ?_
                refine a_goto (pc := 213) (tgt := 118) dX12_playsFrom_213 (by decide) ?_
                refine a_ls (ls' := [some _, some _, some _, some _, some _, some _, some _, none, none]) ⟨rfl, rfl, rfl, rfl, rfl, rfl, rfl, trivial⟩ ?_
                exact ih (x + 1) _ _ _ _ _ (by omega) (by omega) (by first | (rw [hM]; exact hb1) | rw [hM]) (by first | exact hD1 | assumption) hm5
              · have hM := rf_new (f := f) hs (bet_t (by rw [hg, decide_eq_true (by omega)]) (by rw [← hb1]; omega))
                refine a_iload_7 (pc := 184) dX12_playsFrom_184 ?_
                refine a_goto (pc := 186) (tgt := 208) dX12_playsFrom_186 (by decide) ?_
                refine a_istore_5 (pc := 208) dX12_playsFrom_208 (by decide) (by first | rfl | trivial) ?_
                refine a_iinc_6 (pc := 210) (v := nI (x + 1)) dX12_playsFrom_210 (nI_add _ _) (by decide) (by first | rfl | trivial) ?_
                refine a_goto (pc := 213) (tgt := 118) dX12_playsFrom_213 (by decide) ?_
                refine a_ls (ls' := [some _, some _, some _, some _, some _, some _, some _, none, none]) ⟨rfl, rfl, rfl, rfl, rfl, rfl, rfl, trivial⟩ ?_
                exact ih (x + 1) _ _ _ _ _ (by omega) (by omega) (by first | (rw [hM]; exact hb1) | rw [hM]) (by first | exact hD1 | assumption) hm5
          · refine a_aloadn_0 (pc := 132) dX12_playsFrom_132 ?_
            refine mg_9 hm1 rfl dX12_playsFrom_133 ?_
            refine a_bipush (pc := 136) (v := nI 108) dX12_playsFrom_136 (by decide) ?_
            refine a_bipush (pc := 138) (v := nI 6) dX12_playsFrom_138 (by decide) ?_
            refine a_iloadn_1 (pc := 140) dX12_playsFrom_140 ?_
            refine n_imul dX12_playsFrom_141 ?_
            refine n_iadd dX12_playsFrom_142 ?_
            refine a_iload_6 (pc := 143) dX12_playsFrom_143 ?_
            refine n_iadd dX12_playsFrom_145 ?_
            refine ml_may (x := (cK v (6 * y + x)).toNat) hm1 dX12_playsFrom_146 (by omega) (by rw [Nat.add_assoc]; exact (hb.1 (6 * y + x) (by omega)).2.1) ?_
            refine a_topi (bI (cK v (6 * y + x))) (bI_nI _).symm ?_
            refine b_if_ne (pc := 147) (tgt := 210) dX12_playsFrom_147 (by decide) (fun c_147 => ?_) (fun c_147 => ?_)
            · have hM := rf_skip (f := f) (show (g && cK u (6 * y + x)) = true by rw [hg, decide_eq_true (by omega), uK, c_147]; rfl)
              refine a_iinc_6 (pc := 210) (v := nI (x + 1)) dX12_playsFrom_210 (nI_add _ _) (by decide) (by first | rfl | trivial) ?_
              refine a_goto (pc := 213) (tgt := 118) dX12_playsFrom_213 (by decide) ?_
              exact ih (x + 1) _ _ _ _ _ (by omega) (by omega) (by first | (rw [hM]; exact hb1) | rw [hM]) (by first | exact hD1 | assumption) hm1
            · have hs : (g && cK u (6 * y + x)) = false := by rw [uK, c_147]; cases g <;> rfl
              refine a_aloadn_0 (pc := 150) dX12_playsFrom_150 ?_
              refine mg_53 hm1 rfl dX12_playsFrom_151 ?_
              refine a_iloadn_2 (pc := 154) dX12_playsFrom_154 ?_
              refine a_iload_6 (pc := 155) dX12_playsFrom_155 ?_
              refine ms_did (j := e) (x := x) hm1 dX12_playsFrom_157 (by omega) (fun h4 hm4 => ?_)
              refine a_aloadn_0 (pc := 158) dX12_playsFrom_158 ?_
              refine a_iloadn_1 (pc := 159) dX12_playsFrom_159 ?_
              refine a_iloadn_2 (pc := 160) dX12_playsFrom_160 ?_
              refine a_iconst (pc := 161) (v := nI 1) dX12_playsFrom_161 (by decide) ?_
              refine n_iadd dX12_playsFrom_162 ?_
              refine a_iloadn_3 (pc := 163) dX12_playsFrom_163 ?_
              refine a_iload_4 (pc := 164) dX12_playsFrom_164 ?_
              refine cv_X12_291 (pc := 166) rfl dX12_playsFrom_166 hm4.2.2.1 (Nat.le_of_ble_eq_true rfl) ?_
              refine IH (by omega) hm4 hD1 (by omega) (fun h5 p5 t5 D5 hD5 hm5 => ?_)
              have f36_5 := f36 (dnx g (6 * y) u x)
              have edx : dnx g (6 * y) u x = csW u (6 * y + x) (wB g u (6 * y + x)) := if_pos (by omega)
              rw [edx] at f36_5
              rw [edx]
              refine a_istore_7 (pc := 169) dX12_playsFrom_169 (by decide) (by first | rfl | trivial) ?_
              refine a_iloadn_2 (pc := 171) dX12_playsFrom_171 ?_
              refine a_iconst (pc := 172) (v := nI 2) dX12_playsFrom_172 (by decide) ?_
              refine n_irem dX12_playsFrom_173 (by omega) (by decide) (by decide) ?_
              refine n_if_ne (tgt := 194) dX12_playsFrom_174 (by decide) (by omega) (fun c_174 => ?_) (fun c_174 => ?_)
              · refine a_iload_7 (pc := 194) dX12_playsFrom_194 ?_
                refine a_iload_5 (pc := 196) dX12_playsFrom_196 ?_
                refine n_icmp_le (tgt := 206) dX12_playsFrom_198 (by decide) (by omega) (by omega) (fun c_198 => ?_) (fun c_198 => ?_)
                · have hM := rf_old (f := f) hs (nb_f (by rw [hg, decide_eq_false (by omega)]) (by rw [← hb1]; omega))
                  refine a_iload_5 (pc := 206) dX12_playsFrom_206 ?_
                  refine a_istore_5 (pc := 208) dX12_playsFrom_208 (by decide) (by first | rfl | trivial) ?_
                  refine a_iinc_6 (pc := 210) (v := nI (x + 1)) dX12_playsFrom_210 (nI_add _ _) (by decide) (by first | rfl | trivial) ?_
                  refine a_goto (pc := 213) (tgt := 118) dX12_playsFrom_213 (by decide) ?_
                  refine a_ls (ls' := [some _, some _, some _, some _, some _, some _, some _, none, none]) ⟨rfl, rfl, rfl, rfl, rfl, rfl, rfl, trivial⟩ ?_
                  exact ih (x + 1) _ _ _ _ _ (by omega) (by omega) (by first | (rw [hM]; exact hb1) | rw [hM]) (by first | exact hD1 | assumption) hm5
                · have hM := rf_new (f := f) hs (bet_f (by rw [hg, decide_eq_false (by omega)]) (by rw [← hb1]; omega))
                  refine a_iload_7 (pc := 201) dX12_playsFrom_201 ?_
                  refine a_goto (pc := 203) (tgt := 208) dX12_playsFrom_203 (by decide) ?_
                  refine a_istore_5 (pc := 208) dX12_playsFrom_208 (by decide) (by first | rfl | trivial) ?_
                  refine a_iinc_6 (pc := 210) (v := nI (x + 1)) dX12_playsFrom_210 (nI_add _ _) (by decide) (by first | rfl | trivial) ?_
                  refine a_goto (pc := 213) (tgt := 118) dX12_playsFrom_213 (by decide) ?_
                  refine a_ls (ls' := [some _, some _, some _, some _, some _, some _, some _, none, none]) ⟨rfl, rfl, rfl, rfl, rfl, rfl, rfl, trivial⟩ ?_
                  exact ih (x + 1) _ _ _ _ _ (by omega) (by omega) (by first | (rw [hM]; exact hb1) | rw [hM]) (by first | exact hD1 | assumption) hm5
              · refine a_iload_7 (pc := 177) dX12_playsFrom_177 ?_
                refine a_iload_5 (pc := 179) dX12_playsFrom_179 ?_
                refine n_icmp_ge (tgt := 189) dX12_playsFrom_181 (by decide) (by omega) (by omega) (fun c_181 => ?_) (fun c_181 => ?_)
                · have hM := rf_old (f := f) hs (nb_t (by rw [hg, decide_eq_true (by omega)]) (by rw [← hb1]; omega))
                  refine a_iload_5 (pc := 189) dX12_playsFrom_189 ?_
                  refine a_goto (pc := 191) (tgt := 208) dX12_playsFrom_191 (by decide) ?_
                  refine a_istore_5 (pc := 208) dX12_playsFrom_208 (by decide) (by first | rfl | trivial) ?_
                  refine a_iinc_6 (pc := 210) (v := nI (x + 1)) dX12_playsFrom_210 (nI_add _ _) (by decide) (by first | rfl | trivial) ?_
                  refine a_goto (pc := 213) (tgt := 118) dX12_playsFrom_213 (by decide) ?_
                  refine a_ls (ls' := [some _, some _, some _, some _, some _, some _, some _, none, none]) ⟨rfl, rfl, rfl, rfl, rfl, rfl, rfl, trivial⟩ ?_
                  exact ih (x + 1) _ _ _ _ _ (by omega) (by omega) (by first | (rw [hM]; exact hb1) | rw [hM]) (by first | exact hD1 | assumption) hm5
                · have hM := rf_new (f := f) hs (bet_t (by rw [hg, decide_eq_true (by omega)]) (by rw [← hb1]; omega))
                  refine a_iload_7 (pc := 184) dX12_playsFrom_184 ?_
                  refine a_goto (pc := 186) (tgt := 208) dX12_playsFrom_186 (by decide) ?_
                  refine a_istore_5 (pc := 208) dX12_playsFrom_208 (by decide) (by first | rfl | trivial) ?_
                  refine a_iinc_6 (pc := 210) (v := nI (x + 1)) dX12_playsFrom_210 (nI_add _ _) (by decide) (by first | rfl | trivial) ?_
                  refine a_goto (pc := 213) (tgt := 118) dX12_playsFrom_213 (by decide) ?_
                  refine a_ls (ls' := [some _, some _, some _, some _, some _, some _, some _, none, none]) ⟨rfl, rfl, rfl, rfl, rfl, rfl, rfl, trivial⟩ ?_
                  exact ih (x + 1) _ _ _ _ _ (by omega) (by omega) (by first | (rw [hM]; exact hb1) | rw [hM]) (by first | exact hD1 | assumption) hm5
    refine AM.of [some (.ref (gB G + 80)), some (.int (nI (y))), some (.int (nI (e))), some (.int (nI (m))), some (.int (nI (tt))), none, none, none] pnX12 (Nat.le_of_ble_eq_true rfl) (by simp [lsub, lvI, Value.category]) ?_
    refine a_iloadn_2 (pc := 0) dX12_playsFrom_0 ?_
    refine a_iloadn_3 (pc := 1) dX12_playsFrom_1 ?_
    refine n_icmp_ne (tgt := 94) dX12_playsFrom_2 (by decide) (by omega) (by omega) (fun c_2 => ?_) (fun c_2 => by omega)
    refine a_aloadn_0 (pc := 94) dX12_playsFrom_94 ?_
    refine mg_53 hm rfl dX12_playsFrom_95 ?_
    refine a_iloadn_2 (pc := 98) dX12_playsFrom_98 ?_
    refine a_bipush (pc := 99) (v := nI 6) dX12_playsFrom_99 (by decide) ?_
    refine ms_did (j := e) (x := 6) hm dX12_playsFrom_101 (by omega) (fun h1 hm1 => ?_)
    refine a_aloadn_0 (pc := 102) dX12_playsFrom_102 ?_
    refine a_iloadn_1 (pc := 103) dX12_playsFrom_103 ?_
    refine a_iloadn_2 (pc := 104) dX12_playsFrom_104 ?_
    refine a_iconst (pc := 105) (v := nI 1) dX12_playsFrom_105 (by decide) ?_
    refine n_iadd dX12_playsFrom_106 ?_
    refine a_iloadn_3 (pc := 107) dX12_playsFrom_107 ?_
    refine a_iload_4 (pc := 108) dX12_playsFrom_108 ?_
    refine cv_X12_291 (pc := 110) rfl dX12_playsFrom_110 hm1.2.2.1 (Nat.le_of_ble_eq_true rfl) ?_
    refine IH (by omega) hm1 (fun i hi => by rw [hD]) (by omega) (fun h2 p2 t2 D2 hD2 hm2 => ?_)
    have f36_2 := f36 (dnx g (6 * y) u 6)
    refine a_istore_5 (pc := 113) dX12_playsFrom_113 (by decide) (by first | rfl | trivial) ?_
    refine a_iconst (pc := 115) (v := nI 0) dX12_playsFrom_115 (by decide) ?_
    refine a_istore_6 (pc := 116) dX12_playsFrom_116 (by decide) (by first | rfl | trivial) ?_
    exact lp 7 0 _ _ _ _ _ (by omega) (by omega) (by rw [dnx, if_neg (by omega)]; rfl) (by assumption) hm2
