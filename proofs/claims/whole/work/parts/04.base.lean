/-! THE LAYER: a heap is a list of cells; cell k lies at the address B + k. A row an instruction over (pc, locals, stack, heap). -/
abbrev Cx : Type := Launch × Bool × Nat × va_G × (Nat → ClassId) × (Nat → Nat) × Nat × (Nat → Int32)
abbrev gl (G : Cx) : Launch := G.1
abbrev gz (G : Cx) : Bool := G.2.1
abbrev gB (G : Cx) : Nat := G.2.2.1
abbrev gD (G : Cx) : va_G := G.2.2.2.1
abbrev gc (G : Cx) : Nat → ClassId := G.2.2.2.2.1
abbrev gs (G : Cx) : Nat → Nat := G.2.2.2.2.2.1
abbrev gL (G : Cx) : Nat := G.2.2.2.2.2.2.1
abbrev gX (G : Cx) : Nat → Int32 := G.2.2.2.2.2.2.2
abbrev gA (G : Cx) : Nat → Prop := fun q => gB G ≤ q
abbrev gty (G : Cx) : List (ClassId × FieldType) := [(gc G 0, .int), (gc G 1, .long), (gc G 2, .boolean), (gc G 3, .object RX0), (gc G 4, .object RX6)]
def wz (B : Nat) (h : List va_E) : va_W := h.mapIdx (fun k e => (B + k, e))
theorem wz_get {B : Nat} {h : List va_E} {k : Nat} {e : va_E} (H : h[k]? = some e) : (wz B h)[k]? = some (B + k, e) := by
  simp [wz, List.getElem?_mapIdx, H]
theorem wz_set {B : Nat} {h : List va_E} {k : Nat} {e : va_E} : (wz B h).set k (B + k, e) = wz B (h.set k e) := by
  apply List.ext_getElem?
  intro i
  simp only [wz, List.getElem?_mapIdx, List.getElem?_set, List.length_mapIdx]
  by_cases hi : k = i
  · subst hi
    by_cases hl : k < h.length <;> simp [hl]
  · simp [hi]
theorem wz_push {B : Nat} {h : List va_E} {e : va_E} : wz B h ++ [(B + h.length, e)] = wz B (h ++ [e]) := by
  simp [wz, List.mapIdx_append]
/-- the static arrays: what they hold -/
def sI : Nat → List Int32
  | 0 => [0, 0, 0, 0, 1, 1, 0]
  | 1 => [99, 9, 1, 1, 9, 4, 11]
  | 2 => [2, 1, 1, 1, 1, 2, 1, 0, 0, 0, 0, 1, 1, 0, 0, 0, 0, 1, 1, 0, 0, 0, 0, 1, 1, 0, 0, 0, 0, 1, 2, 1, 1, 1, 1, 2]
  | 3 => [-1, 0, 0, 2, 1, 3, 0, 4]
  | _ => [1, 10, 11, 2, 20, 0, 0, 0, 0, 30, 0, 0, 0, 41, 40, 0, 0, 0, 50, 0, 0, 0, 0, 60, 70, 0, 0, 0, 0, 80, 0, 81]
def sJ : List Int64 := [0x42, 0x85, 0x10a, 0x214, 0x428, 0x810, 0x1081, 0x2142, 0x4284, 0x8508, 0x10a10, 0x20420, 0x42040, 0x85080, 0x10a100, 0x214200, 0x428400, 0x810800, 0x1081000, 0x2142000, 0x4284000, 0x8508000, 0x10a10000, 0x20420000, 0x42040000, 0x85080000, 0x10a100000, 0x214200000, 0x428400000, 0x810800000, 0x81000000, 0x142000000, 0x284000000, 0x508000000, 0xa10000000, 0x420000000]
def sN : Nat → Nat
  | 0 => 7
  | 1 => 7
  | 2 => 36
  | 3 => 8
  | _ => 32
def sC : Nat → String × String
  | 0 => (RX11, "LEAST")
  | 1 => (RX11, "MOST")
  | 2 => (RX0, "OVER_EDGE")
  | 3 => (RX5, "ABOVE")
  | _ => (RX5, "OWN")
/-- the tables as the class's static fields hold them; 5: BESIDE; 6: the script -/
def stZ (G : Cx) (U : State) : Prop :=
  (∀ i : Nat, i < 5 → va_Z (sC i).1 (sC i).2 "[I" (.ref (gs G i)) (gA G) U U.heap ∧ va_T .int (gs G i) (sN i) (fun j => .int ((sI i).getD j 0)) (gA G) U U.heap) ∧
  (va_Z RX0 "BESIDE" "[J" (.ref (gs G 5)) (gA G) U U.heap ∧ va_T .long (gs G 5) 36 (fun j => .long (sJ.getD j 0)) (gA G) U U.heap) ∧
  va_T .int (gs G 6) (gL G) (fun j => .int (gX G j)) (gA G) U U.heap
/-- the words of nest mates -/
def nM : List (String × Nat × MethodName × String) := [(RX11, 11, yX0_init, RX11), (RX11, 21, yX2_init, RX11), (RX2, 9, yX4_init, RX11), (RX11, 28, yX3_init, RX11), (RX3, 17, yX4_init, RX11), (RX7, 11, yX0_init, RX11), (RX9, 32, yX0_init, RX11), (RX8, 11, yX0_init, RX11), (RX11, 74, yX5_init, RX11), (RX11, 85, yX6_init, RX11), (RX5, 22, yX11_within, RX11)]
def nF : List (String × Nat × String × String × String × String) := [(RX0, 107, RX11, "MOST", "[I", RX11), (RX7, 94, RX11, "LEAST", "[I", RX11), (RX7, 98, RX11, "MOST", "[I", RX11)]
def nW (U : State) : Prop := (∀ q ∈ nM, va_Nw (.methodLinkNest q.1 q.2.1 q.2.2.1 q.2.2.2) U) ∧ (∀ q ∈ nF, va_Nw (.fieldLinkNest q.1 q.2.1 q.2.2.1 q.2.2.2.1 q.2.2.2.2.1 q.2.2.2.2.2) U) ∧ va_AO RX0 U ∧ va_AO RX6 U
/-- the surroundings -/
def Sur (G : Cx) (U : State) : Prop := gB G ≤ U.heap.size ∧ va_K (gD G) vwCl (gty G) U ∧ stZ G U ∧ nW U
def RH (G : Cx) (h : List va_E) (H : Heap) : Prop := va_P (gD G) vwCl (wz (gB G) h) H ∧ va_D (gA G) (wz (gB G) h)
def APre (G : Cx) (vs : List Value) (h : List va_E) : Array Value → State → Prop := fun a U => a = vs.toArray ∧ Sur G U ∧ RH G h U.heap ∧ (gz G = true → U.heap.size = gB G + h.length)
def AQ (G : Cx) (n : Nat) (Q : Option Value → List va_E → Prop) : Array Value → State → Outcome → State → Prop := fun _ st o t => ∃ (v : Option Value) (h' : List va_E), o = .returned v ∧ Q v h' ∧ RH G h' t.heap ∧ (gz G = true → h'.length = n) ∧ va_F (gA G) st t
abbrev rmx (d mc ms : Nat) : Room := { frames := d, cells := mc, slots := ms, locals := 64 * d }
/-- the method y, with these values, over this heap, comes to its end with Q -/
def AM (G : Cx) (y : MethodName) (cc : ByteArray) (mL : Nat) (rt : Option FieldType) (d mc ms : Nat) (vs : List Value) (h : List va_E) (Q : Option Value → List va_E → Prop) : Prop :=
  Met (gl G) y (Cond.code y cc mL rt :: gT) (rmx d mc ms) (APre G vs h) (AQ G (h.length + mc) Q) mc ms (gA G)
def Fr (G : Cx) (y : MethodName) (cc : ByteArray) (mL : Nat) (rt : Option FieldType) (p : Program) (s : State) (m : MethodId) (args : Array Value) (meth : Method) (c : Code) : Prop :=
  p.tables.exec = Jvm.exec ∧ c.code = cc ∧ meth.sig.returnType = rt ∧ c.maxLocals = mL ∧ s.vm.findClass y.cls = some m.cls ∧ (∀ w ∈ gT, w.before args s = true) ∧ meth.locks = false ∧ meth.name = y.name ∧ Sur G s
def lvL : Nat → List (Option Value) → List (Nat × Value)
  | _, [] => []
  | i, none :: t => lvL (i + 1) t
  | i, some v :: t => (i, v) :: lvL (i + 1) t
theorem lvL_mem : ∀ (ls : List (Option Value)) (i j : Nat) (v : Value), (j, v) ∈ lvL i ls ↔ i ≤ j ∧ ls[j - i]? = some (some v)
  | [], i, j, v => by simp [lvL]
  | none :: t, i, j, v => by
    rw [lvL, lvL_mem t (i + 1) j v]
    constructor
    · rintro ⟨h1, h2⟩
      refine ⟨by omega, ?_⟩
      rw [show j - i = (j - (i + 1)) + 1 by omega, List.getElem?_cons_succ]
      exact h2
    · rintro ⟨h1, h2⟩
      by_cases he : j = i
      · subst he; simp at h2
      · refine ⟨by omega, ?_⟩
        rw [show j - i = (j - (i + 1)) + 1 by omega, List.getElem?_cons_succ] at h2
        exact h2
  | some w :: t, i, j, v => by
    rw [lvL, List.mem_cons, lvL_mem t (i + 1) j v]
    constructor
    · rintro (h | ⟨h1, h2⟩)
      · cases h; simp
      · refine ⟨by omega, ?_⟩
        rw [show j - i = (j - (i + 1)) + 1 by omega, List.getElem?_cons_succ]
        exact h2
    · rintro ⟨h1, h2⟩
      by_cases he : j = i
      · subst he
        simp at h2
        exact Or.inl (by rw [h2])
      · refine Or.inr ⟨by omega, ?_⟩
        rw [show j - i = (j - (i + 1)) + 1 by omega, List.getElem?_cons_succ] at h2
        exact h2
abbrev LH (lv : Array Slot) (mL : Nat) (ls : List (Option Value)) : Prop := lv_has lv mL (lvL 0 ls)
theorem LH.get {lv : Array Slot} {mL : Nat} {ls : List (Option Value)} (h : LH lv mL ls) (i : Nat) {v : Value} (hi : ls[i]? = some (some v)) : lv[i]? = some (.val v) :=
  h.2.2 (i, v) ((lvL_mem ls 0 i v).mpr ⟨Nat.zero_le _, hi⟩)
def nlong : Option (Option Value) → Prop
  | some (some v) => v.category = 1
  | _ => True
theorem LH.st1 {lv : Array Slot} {mL : Nat} {ls : List (Option Value)} {i : Nat} {x : Value} (hp : i = 0 ∨ nlong ls[i - 1]?) (h : lv_has lv mL ((i, x) :: (lvL 0 ls).filter (fun q => !(q.1 == i) && !(q.1 + 1 == i && q.2.category == 2)))) : LH lv mL (ls.set i (some x)) := by
  refine ⟨h.1, h.2.1, fun q hq => ?_⟩
  obtain ⟨j, v⟩ := q
  have h2 := ((lvL_mem _ 0 j v).mp hq).2
  rw [Nat.sub_zero, List.getElem?_set] at h2
  refine h.2.2 (j, v) ?_
  by_cases hj : i = j
  · subst hj
    rw [if_pos rfl] at h2
    split at h2
    · cases h2; exact List.mem_cons_self
    · cases h2
  · rw [if_neg hj] at h2
    refine List.mem_cons_of_mem _ (List.mem_filter.mpr ⟨(lvL_mem ls 0 j v).mpr ⟨Nat.zero_le _, h2⟩, ?_⟩)
    have e1 : (j == i) = false := by simp; omega
    by_cases e2 : j + 1 = i
    · rcases hp with rfl | hp
      · omega
      · rw [show i - 1 = j by omega, h2] at hp
        have : v.category = 1 := hp
        simp [e1, this]
    · simp [e1, e2]
theorem LH.st2 {lv : Array Slot} {mL : Nat} {ls : List (Option Value)} {i : Nat} {x : Value} (hp : i = 0 ∨ nlong ls[i - 1]?) (h : lv_has lv mL ((i, x) :: (lvL 0 ls).filter (fun q => !(q.1 == i) && (!(q.1 == i + 1) && !(q.1 + 1 == i && q.2.category == 2))))) : LH lv mL ((ls.set i (some x)).set (i + 1) none) := by
  refine ⟨h.1, h.2.1, fun q hq => ?_⟩
  obtain ⟨j, v⟩ := q
  have h2 := ((lvL_mem _ 0 j v).mp hq).2
  rw [Nat.sub_zero, List.getElem?_set] at h2
  refine h.2.2 (j, v) ?_
  by_cases hj1 : i + 1 = j
  · rw [if_pos hj1] at h2
    split at h2 <;> cases h2
  · rw [if_neg hj1, List.getElem?_set] at h2
    by_cases hj : i = j
    · subst hj
      rw [if_pos rfl] at h2
      split at h2
      · cases h2; exact List.mem_cons_self
      · cases h2
    · rw [if_neg hj] at h2
      refine List.mem_cons_of_mem _ (List.mem_filter.mpr ⟨(lvL_mem ls 0 j v).mpr ⟨Nat.zero_le _, h2⟩, ?_⟩)
      have e1 : (j == i) = false := by simp; omega
      have e3 : (j == i + 1) = false := by simp; omega
      by_cases e2 : j + 1 = i
      · rcases hp with rfl | hp
        · omega
        · rw [show i - 1 = j by omega, h2] at hp
          have : v.category = 1 := hp
          simp [e1, e3, this]
      · simp [e1, e2, e3]
/-- forgetting locals -/
def lsub : List (Option Value) → List (Option Value) → Prop
  | [], _ => True
  | none :: t, [] => lsub t []
  | none :: t, _ :: u => lsub t u
  | some v :: t, some w :: u => v = w ∧ lsub t u
  | some _ :: _, _ => False
theorem lsub_get : ∀ (a b : List (Option Value)), lsub a b → ∀ (i : Nat) (v : Value), a[i]? = some (some v) → b[i]? = some (some v)
  | [], _, _, i, v, h => by simp at h
  | none :: t, [], hs, i, v, h => by
    cases i with
    | zero => simp at h
    | succ i => exact absurd (lsub_get t [] hs i v (by simpa using h)) (by simp)
  | none :: t, w :: u, hs, i, v, h => by
    cases i with
    | zero => simp at h
    | succ i => simpa using lsub_get t u hs i v (by simpa using h)
  | some x :: t, some w :: u, hs, i, v, h => by
    cases i with
    | zero => simp at h ⊢; rw [← h]; exact hs.1.symm
    | succ i => simpa using lsub_get t u hs.2 i v (by simpa using h)
  | some _ :: _, [], hs, _, _, _ => hs.elim
  | some _ :: _, none :: _, hs, _, _, _ => hs.elim
theorem LH.sub {lv : Array Slot} {mL : Nat} {a b : List (Option Value)} (h : LH lv mL b) (hs : lsub a b) : LH lv mL a :=
  ⟨h.1, h.2.1, fun q hq => h.2.2 q ((lvL_mem b 0 q.1 q.2).mpr ⟨Nat.zero_le _, lsub_get a b hs _ _ ((lvL_mem a 0 q.1 q.2).mp hq).2⟩)⟩
/-- the walk: from (pc, locals, stack, heap) the machine comes to a state with Z -/
def AW (G : Cx) (y : MethodName) (cc : ByteArray) (mL : Nat) (rt : Option FieldType) (R : Room) (Z : List Frame → Array Value → State → State → Prop) (cn sn pc : Nat) (ls : List (Option Value)) (st : List Value) (h : List va_E) : Prop :=
  cn ≤ R.cells → sn ≤ R.slots → ∀ (p : Program) (e : Env) (s : State) (m : MethodId) (args : Array Value) (below : List Frame) (meth : Method) (c : Code), Fr G y cc mL rt p s m args meth c →
    ∀ (H : Heap) (locs : List Loc) (lv : Array Slot), RH G h H → va_S (gA G) s.heap H locs → (gz G = true → s.heap.size + cn = gB G + h.length) → LH lv mL ls → W p (gl G) e R s m args below meth c H locs cn sn (Z below args s) (F0 m pc lv st)
abbrev ZQ (G : Cx) (mc ms n : Nat) (Q : Option Value → List va_E → Prop) : List Frame → Array Value → State → State → Prop := fun below args s => MQ below (AQ G n Q) args s mc ms (gA G)
def lvI : List Value → List (Option Value)
  | [] => []
  | v :: t => if v.category = 2 then some v :: none :: lvI t else some v :: lvI t
theorem lvI_args : ∀ (vs : List Value) (pre k : Nat) (v : Value), (lvI vs)[k]? = some (some v) → (pre + k, v) ∈ lv_args pre vs
  | [], _, k, v, h => by simp [lvI] at h
  | w :: t, pre, k, v, h => by
    rw [lvI] at h
    rw [lv_args]
    by_cases hc : w.category = 2
    · rw [if_pos hc] at h ⊢
      match k, h with
      | 0, h => simp at h; rw [h]; exact List.mem_cons_self
      | 1, h => simp at h
      | k + 2, h =>
        refine List.mem_cons_of_mem _ ?_
        have := lvI_args t (pre + 2) k v (by simpa using h)
        rwa [show pre + 2 + k = pre + (k + 2) by omega] at this
    · rw [if_neg hc] at h ⊢
      match k, h with
      | 0, h => simp at h; rw [h]; exact List.mem_cons_self
      | k + 1, h =>
        refine List.mem_cons_of_mem _ ?_
        have := lvI_args t (pre + 1) k v (by simpa using h)
        rwa [show pre + 1 + k = pre + (k + 1) by omega] at this
section SecAM
variable {G : Cx} {y : MethodName} {cc : ByteArray} {mL : Nat} {rt : Option FieldType} {d mc ms : Nat}
theorem AM.of {vs : List Value} {h : List va_E} {Q : Option Value → List va_E → Prop} (ls : List (Option Value)) (hy : plainName y.cls = true) (hl : (lg_sl vs).length ≤ mL) (hs : lsub ls (lvI vs))
    (k : AW G y cc mL rt (rmx d mc ms) (ZQ G mc ms (h.length + mc) Q) 0 0 0 ls [] h) : AM G y cc mL rt d mc ms vs h Q := by
  refine Met.ofW (cc := cc) (maxL := mL) (ret := rt) hy rfl ?_
  intro p e s m args below meth c s₁ B hml hv
  obtain ⟨rfl, hSur, hRH, hsz⟩ := hv
  have hts := atoms_spec (ws := Cond.code y cc mL rt :: gT) B.pre
  have hlv := lv_entry vs (n := mL) hl
  rw [lg_entry_eq]
  generalize (lg_sl vs ++ List.replicate (mL - (lg_sl vs).length) Slot.unset).toArray = lv at hlv ⊢
  have hLH : LH lv mL (lvI vs) := ⟨hlv.1, hlv.2.1, fun q hq => hlv.2.2 q (by
    have h1 := ((lvL_mem _ 0 q.1 q.2).mp hq).2
    rw [Nat.sub_zero] at h1
    have h2 := lvI_args vs 0 q.1 q.2 h1
    rwa [Nat.zero_add] at h2)⟩
  exact k (Nat.zero_le _) (Nat.zero_le _) p e s m _ below meth c ⟨B.exec, B.bytes, B.returns, hml, findClass_of_methodNamed B.named, fun w hw => hts w (List.mem_cons_of_mem _ hw), B.notSynchronized, (name_of_methodNamed B.named B.method).1, hSur⟩ s.heap [] lv hRH va_S.rf hsz (hLH.sub hs)
end SecAM
