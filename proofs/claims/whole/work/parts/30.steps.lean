/-! WHAT A STEP DOES TO THE MACHINE -/
def KK (D : va_G) (dA : Nat → ClassId) (s : State) : Prop := va_K D classes [] s ∧ (∀ (t : Nat) (ty : FieldType), aTy t = some ty → ArrOfT s (dA t) ty ∧ (t ≠ 40 → va_RA s (dA t) ty)) ∧ (∀ q ∈ nstF, va_Nw (.fieldLinkNest q.1 q.2.1 q.2.2.1 q.2.2.2.1 q.2.2.2.2.1 q.2.2.2.2.2) s) ∧ (∀ q ∈ nstM, va_Nw (.methodLinkNest q.1 q.2.1 q.2.2.1 q.2.2.2) s) ∧ (∀ (t : Nat) (q : vw_C), rTyB t = true → classes[t - 50]? = some q → va_AO q.1 s) ∧ va_Nw (.castable "[I" "java/lang/Cloneable") s
theorem KK.moved {D : va_G} {dA : Nat → ClassId} {s U : State} (hW : s.WarmedH U.vm) (h : KK D dA s) : KK D dA U :=
  ⟨va_K.moved hW.alike h.1, fun t ty ht => ⟨arrOfT_moved hW.alike (h.2.1 t ty ht).1, fun hn => ((h.2.1 t ty ht).2 hn).moved hW.alike⟩, fun q hq => (h.2.2.1 q hq).warmF hW, fun q hq => (h.2.2.2.1 q hq).warmM hW, fun t q h1 h2 => (h.2.2.2.2.1 t q h1 h2).moved hW.alike, h.2.2.2.2.2.warmC hW⟩
/-- a method runs: its code, its class, the tables, room for d calls behind one another -/
def Cx (i d : Nat) (D : va_G) (dA : Nat → ClassId) (lo : Nat) (p : Program) (R : Room) (s : State) (m : MethodId) (args : Array Value) (meth : Method) (c : Code) : Prop :=
  p.tables.exec = Jvm.exec ∧ c.code = mB i ∧ c.maxLocals = mX i ∧ s.vm.findClass (mOw i) = some m.cls ∧ (∀ w ∈ gw, w.before args s = true) ∧ meth.sig.returnType = mRt i ∧ meth.locks = false ∧ KK D dA s ∧ lo ≤ s.heap.size ∧ (d ≤ R.frames ∧ 36 * d ≤ R.locals) ∧ (mIn i = true → meth.name = "<init>")
abbrev fr (lo : Nat) : Nat → Prop := fun q => lo ≤ q
/-- from one point of method i to another -/
def Tr (d i pc : Nat) (L : List (Option mL)) (S : List mV) (M : Mm) (pc1 : Nat) (L1 : List (Option mL)) (S1 : List mV) (M1 : Mm) : Prop :=
  M.sz ≤ M1.sz ∧ M.sl ≤ M1.sl ∧ ∀ (D : va_G) (dA : Nat → ClassId) (lo : Nat) (p : Program) (l : Launch) (e : Env) (R : Room) (s : State) (m : MethodId) (args : Array Value) (below : List Frame) (meth : Method) (c : Code) (Qf : State → Prop) (H : Heap) (ls : Array Slot) (locs : List Loc) (cells slots : Nat),
    Cx i d D dA lo p R s m args meth c → LR ls (mX i) L → Rep D dA lo M H → va_S (fr lo) s.heap H locs → cells + (M1.sz - M.sz) ≤ R.cells → slots + (M1.sl - M.sl) ≤ R.slots →
    (∀ (H1 : Heap) (ls1 : Array Slot) (locs1 : List Loc), LR ls1 (mX i) L1 → Rep D dA lo M1 H1 → va_S (fr lo) s.heap H1 locs1 → W p l e R s m args below meth c H1 locs1 (cells + (M1.sz - M.sz)) (slots + (M1.sl - M.sl)) Qf (F0 m pc1 ls1 (S1.map m_val))) →
    W p l e R s m args below meth c H locs cells slots Qf (F0 m pc ls (S.map m_val))
def rCode (i pcr : Nat) (r : Option mV) : Prop := match r with
  | none => decode (mB i) pcr = .ok (.return_, 1) ∧ mRt i = none
  | some (.inl x) => decode (mB i) pcr = .ok (.ireturn, 1) ∧ (mRt i = some .int ∨ (mRt i = some .boolean ∧ (x = 0 ∨ x = 1)))
  | some (.inr (.inl _)) => False
  | some (.inr (.inr _)) => decode (mB i) pcr = .ok (.areturn, 1) ∧ ((∃ n, mRt i = some (.object n)) ∨ ∃ t, mRt i = some (.array t))
/-- from a point of method i to its end, with the answer r and the memory M1 -/
def Run (d i pc : Nat) (L : List (Option mL)) (S : List mV) (M : Mm) (r : Option mV) (M1 : Mm) : Prop :=
  M.sz ≤ M1.sz ∧ M.sl ≤ M1.sl ∧ ∃ pcr : Nat, rCode i pcr r ∧ ∀ (D : va_G) (dA : Nat → ClassId) (lo : Nat) (p : Program) (l : Launch) (e : Env) (R : Room) (s : State) (m : MethodId) (args : Array Value) (below : List Frame) (meth : Method) (c : Code) (Qf : State → Prop) (H : Heap) (ls : Array Slot) (locs : List Loc) (cells slots : Nat),
    Cx i d D dA lo p R s m args meth c → LR ls (mX i) L → Rep D dA lo M H → va_S (fr lo) s.heap H locs → cells + (M1.sz - M.sz) ≤ R.cells → slots + (M1.sl - M.sl) ≤ R.slots →
    (∀ (H1 : Heap) (ls1 : Array Slot) (locs1 : List Loc), Rep D dA lo M1 H1 → va_S (fr lo) s.heap H1 locs1 → W p l e R s m args below meth c H1 locs1 (cells + (M1.sz - M.sz)) (slots + (M1.sl - M.sl)) Qf (F0 m pcr ls1 (r.toList.map m_val))) →
    W p l e R s m args below meth c H locs cells slots Qf (F0 m pc ls (S.map m_val))
/-- method i, from a point on, ends, and Q holds of its answer and the memory -/
def X (d i pc : Nat) (L : List (Option mL)) (S : List mV) (M : Mm) (Q : mQ) : Prop := ∃ (r : Option mV) (M1 : Mm), Q r M1 ∧ Run d i pc L S M r M1
theorem X.mono {d i pc : Nat} {L : List (Option mL)} {S : List mV} {M : Mm} {Q Q' : mQ} (h : X d i pc L S M Q) (hq : ∀ r M1, Q r M1 → Q' r M1) : X d i pc L S M Q' := by
  obtain ⟨r, M1, a, b⟩ := h
  exact ⟨r, M1, hq r M1 a, b⟩
theorem Tr.run {d i pc : Nat} {L : List (Option mL)} {S : List mV} {M : Mm} {pc1 : Nat} {L1 : List (Option mL)} {S1 : List mV} {M1 : Mm} {r : Option mV} {M2 : Mm} (t : Tr d i pc L S M pc1 L1 S1 M1) (h : Run d i pc1 L1 S1 M1 r M2) : Run d i pc L S M r M2 := by
  obtain ⟨z1, z2, t⟩ := t
  obtain ⟨y1, y2, pcr, hr, h⟩ := h
  refine ⟨Nat.le_trans z1 y1, Nat.le_trans z2 y2, pcr, hr, ?_⟩
  intro D dA lo p l e R s m args below meth c Qf H ls locs cells slots C hL hR hS hc hs k
  refine t D dA lo p l e R s m args below meth c Qf H ls locs cells slots C hL hR hS (by omega) (by omega) fun H1 ls1 locs1 hL1 hR1 hS1 => ?_
  refine h D dA lo p l e R s m args below meth c Qf H1 ls1 locs1 _ _ C hL1 hR1 hS1 (by omega) (by omega) fun H2 ls2 locs2 hR2 hS2 => ?_
  rw [show cells + (M1.sz - M.sz) + (M2.sz - M1.sz) = cells + (M2.sz - M.sz) by omega, show slots + (M1.sl - M.sl) + (M2.sl - M1.sl) = slots + (M2.sl - M.sl) by omega]
  exact k H2 ls2 locs2 hR2 hS2
theorem Tr.x {d i pc : Nat} {L : List (Option mL)} {S : List mV} {M : Mm} {pc1 : Nat} {L1 : List (Option mL)} {S1 : List mV} {M1 : Mm} {Q : mQ} (t : Tr d i pc L S M pc1 L1 S1 M1) (h : X d i pc1 L1 S1 M1 Q) : X d i pc L S M Q := by
  obtain ⟨r, M2, a, b⟩ := h
  exact ⟨r, M2, a, t.run b⟩
/-- a step that leaves the memory, given by a row of the kit -/
theorem Tr.pure {d i pc : Nat} {L : List (Option mL)} {S : List mV} {M : Mm} {pc1 : Nat} {L1 : List (Option mL)} {S1 : List mV}
    (h : ∀ (D : va_G) (dA : Nat → ClassId) (lo : Nat) (p : Program) (l : Launch) (e : Env) (R : Room) (s : State) (m : MethodId) (args : Array Value) (below : List Frame) (meth : Method) (c : Code) (Qf : State → Prop) (H : Heap) (ls : Array Slot) (locs : List Loc) (cells slots : Nat),
      Cx i d D dA lo p R s m args meth c → LR ls (mX i) L → Rep D dA lo M H → va_S (fr lo) s.heap H locs → cells ≤ R.cells → slots ≤ R.slots →
      (∀ ls1 : Array Slot, LR ls1 (mX i) L1 → W p l e R s m args below meth c H locs cells slots Qf (F0 m pc1 ls1 (S1.map m_val))) →
      W p l e R s m args below meth c H locs cells slots Qf (F0 m pc ls (S.map m_val))) : Tr d i pc L S M pc1 L1 S1 M := by
  refine ⟨Nat.le_refl _, Nat.le_refl _, ?_⟩
  intro D dA lo p l e R s m args below meth c Qf H ls locs cells slots C hL hR hS hc hs k
  refine h D dA lo p l e R s m args below meth c Qf H ls locs cells slots C hL hR hS (by omega) (by omega) fun ls1 hL1 => ?_
  have := k H ls1 locs hL1 hR hS
  rw [Nat.sub_self, Nat.sub_self] at this
  exact this
theorem stk_sum (S : List mV) : ((S.map m_val).map fun v => v.category).sum = stk S := by
  induction S with
  | nil => rfl
  | cons v S ih =>
    rw [List.map_cons, List.map_cons, List.sum_cons, ih]
    match v with
    | .inl x => show 1 + _ = _; rw [stk]; omega
    | .inr (.inl x) => show 2 + _ = _; rw [stk]; omega
    | .inr (.inr none) => show 1 + _ = _; rw [stk]; omega
    | .inr (.inr (some x)) => show 1 + _ = _; rw [stk]; omega
