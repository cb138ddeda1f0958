/-! CALLS. Every method's words: its own code, and all words of the tables that stay true -/
def mW (j : Nat) : List Cond := Cond.code (mY j) (mB j) (mX j) (mRt j) :: gw
def Qx (D : va_G) (dA : Nat → ClassId) (lo : Nat) (r : Option mV) (M1 : Mm) : Array Value → State → Outcome → State → Prop := fun _ st o t => o = .returned (r.map m_val) ∧ Rep D dA lo M1 t.heap ∧ va_F (fr lo) st t
def Px (D : va_G) (dA : Nat → ClassId) (lo : Nat) (as : List mL) (M : Mm) : Array Value → State → Prop := va_Pc (as.map fun v => m_val (m_lv v)) (fun U => Rep D dA lo M U.heap ∧ KK D dA U ∧ lo ≤ U.heap.size)
/-- what the tables must have of a method that is called -/
def mOK (j n : Nat) : Prop := plainName (mY j).cls = true ∧ mX j ≤ 17 ∧ Cond.code (mY j) (mB j) (mX j) (mRt j) ∈ gw ∧ Cond.initialized (mY j).cls ∈ gw ∧ ((mY j).cls ≠ "java/lang/invoke/MethodHandle" ∧ (mY j).cls ≠ "java/lang/invoke/VarHandle") ∧ (parseMethodDescriptor (mY j).desc).map (fun d => d.parameters.length) = some n ∧ mOw j = (mY j).cls ∧ (mIn j = true → (mY j).name = "<init>")
theorem Run.met {d j : Nat} {as : List mL} {M M1 : Mm} {r : Option mV} (h : Run d j 0 (enL (mX j) as) [] M r M1) {n : Nat} (hj : mOK j n) (hl : as.length ≤ mX j) (l : Launch) (D : va_G) (dA : Nat → ClassId) (lo : Nat) :
    Met l (mY j) (mW j) { frames := d, cells := M1.sz - M.sz, slots := M1.sl - M.sl, locals := 36 * d } (Px D dA lo as M) (Qx D dA lo r M1) (M1.sz - M.sz) (M1.sl - M.sl) (fr lo) := by
  obtain ⟨z1, z2, pcr, hrc, h⟩ := h
  obtain ⟨o1, o2, o3, o4, o5, o6, o7, o8⟩ := hj
  refine Met.ofW (cc := mB j) (maxL := mX j) (ret := mRt j) o1 rfl ?_
  intro p e s m args below meth c s₁ B hml hv
  obtain ⟨rfl, hR, hKK, hlo⟩ := hv
  have hts := atoms_spec (ws := mW j) B.pre
  have hown : s.vm.findClass (mY j).cls = some m.cls := findClass_of_methodNamed B.named
  have hlocks := B.notSynchronized
  have hnm : meth.name = (mY j).name := (name_of_methodNamed B.named B.method).1
  have C : Cx j d D dA lo p (headSpec (mW j) { frames := d, cells := M1.sz - M.sz, slots := M1.sl - M.sl, locals := 36 * d }).room s m (as.map fun v => m_val (m_lv v)).toArray meth c :=
    ⟨B.exec, B.bytes, hml, by rw [o7]; exact hown, fun w hw => hts w (List.mem_cons_of_mem _ hw), B.returns, hlocks, hKK, hlo, ⟨Nat.le_refl _, Nat.le_refl _⟩, fun hi => by rw [hnm]; exact o8 hi⟩
  rw [lg_entry_eq]
  have hx := B.exec
  have hb := B.bytes
  have hr := B.returns
  refine h D dA lo p l e _ s m _ below meth c _ s.heap _ [] 0 0 C (LR.entry as hl) hR va_S.rf (by show 0 + _ ≤ M1.sz - M.sz; omega) (by show 0 + _ ≤ M1.sl - M.sl; omega) ?_
  intro H1 ls1 locs1 hR1 hS1
  rw [Nat.zero_add, Nat.zero_add]
  match r, hrc with
  | none, hrc => exact W.vret hx hb (hr.trans hrc.2) (fun t ht _ => ⟨rfl, by rw [ht]; exact hR1, hS1.F ht⟩) hS1.2.2 hrc.1
  | some (.inl x), hrc =>
    rcases hrc.2 with h2 | ⟨h2, h3⟩
    · exact W.iret (v := x) hx hb (hr.trans h2) (fun t ht _ => ⟨rfl, by rw [ht]; exact hR1, hS1.F ht⟩) hS1.2.2 hrc.1
    · exact W.zret (v := x) hx hb (hr.trans h2) (nf_z rfl x h3).1 (fun t ht _ => ⟨rfl, by rw [ht]; exact hR1, hS1.F ht⟩) hS1.2.2 hrc.1
  | some (.inr (.inr x)), hrc =>
    rcases hrc.2 with ⟨nm, h2⟩ | ⟨nm, h2⟩
    · exact W.aret (v := va_rf x) hx hb (hr.trans h2) (Or.inl ⟨_, rfl⟩) (va_rf_or x) (fun t ht _ => ⟨rfl, by rw [ht]; exact hR1, hS1.F ht⟩) hS1.2.2 hrc.1
    · exact W.aret (v := va_rf x) hx hb (hr.trans h2) (Or.inr ⟨_, rfl⟩) (va_rf_or x) (fun t ht _ => ⟨rfl, by rw [ht]; exact hR1, hS1.F ht⟩) hS1.2.2 hrc.1
theorem Px.blind {D : va_G} {dA : Nat → ClassId} {lo : Nat} {as : List mL} {M : Mm} : FrameBlind (Px D dA lo as M) := by
  intro a U g mk q
  obtain ⟨q0, q1, q2, q3⟩ := q
  refine ⟨q0, q1, ?_, q3⟩
  exact ⟨va_K.moved (u := U) (U := U.calling g mk a) (Vm.Alike.refl U.vm) q2.1, fun t ty ht => ⟨arrOfT_moved (u := U) (E := U.calling g mk a) (Vm.Alike.refl U.vm) (q2.2.1 t ty ht).1, fun hn => ((q2.2.1 t ty ht).2 hn).moved (u := U) (U := U.calling g mk a) (Vm.Alike.refl U.vm)⟩, fun w hw => (q2.2.2.1 w hw).same rfl (u := U) (U := U.calling g mk a) rfl, fun w hw => (q2.2.2.2.1 w hw).same rfl (u := U) (U := U.calling g mk a) rfl, fun t q h1 h2 => (q2.2.2.2.2.1 t q h1 h2).moved (u := U) (U := U.calling g mk a) (Vm.Alike.refl U.vm), q2.2.2.2.2.2.same rfl (u := U) (U := U.calling g mk a) rfl⟩
section XC
variable {p : Program} {l : Launch} {e : Env} {R : Room} {s : State} {m : MethodId} {args : Array Value} {below : List Frame} {meth : Method} {c : Code} {H H0 : Heap} {locs : List Loc} {cells slots mc ms : Nat} {Q : State → Prop} {pc lo : Nat} {ls : Array Slot} {rest st0 : List Value} {a : Array Value} {D : va_G} {dA : Nat → ClassId} {r : Option mV} {M1 : Mm}
theorem va_callX (hr : va_Run p l e R s m args below meth c H locs cells slots mc ms (F0 m pc ls st0) rest (Qx D dA lo r M1 a) (fr lo)) (hS : va_S (fr lo) H0 H locs)
    (kk : ∀ (H1 : Heap) (locs1 : List Loc), Rep D dA lo M1 H1 → va_S (fr lo) H0 H1 locs1 → W p l e R s m args below meth c H1 locs1 (cells + mc) (slots + ms) Q (F0 m (pc + 3) ls ((r.map m_val).toList ++ rest))) : W p l e R s m args below meth c H locs cells slots Q (F0 m pc ls st0) := by
  intro T hT X
  obtain ⟨v, st₀, t, T', L, h0, X', hL, e1, e2, ⟨hv, hrep, hz, hk⟩, st⟩ := hr T hT X
  have hv := Outcome.returned.inj hv
  subst hv
  rw [h0] at hz hk
  obtain ⟨t2, a1, b1⟩ := kk T'.heap (locs ++ L) (by rw [e1]; exact hrep)
    ⟨Nat.le_trans hS.1 (by rw [e1]; exact hz), fun q h1 h2 => by rw [e1, hk q (Nat.lt_of_lt_of_le h1 hS.1) h2]; exact hS.2.1 q h1 h2, fun q hq => by
      rcases List.mem_append.mp hq with h | h
      · exact hS.2.2 q h
      · exact hL q h⟩ T' rfl X'
  exact ⟨t2, st t2 a1, b1⟩
end XC
theorem pAs_spec : ∀ (n : Nat) (S : List mV) (F : List mL → List mV → Prop), pAs n S F → ∃ as S', as.length = n ∧ S = (as.map m_lv).reverse ++ S' ∧ F as S'
  | 0, S, F, h => ⟨[], S, rfl, rfl, h⟩
  | n + 1, .inl x :: S, F, h => by
    obtain ⟨as, S', h1, h2, h3⟩ := pAs_spec n S _ h
    exact ⟨as ++ [.inl x], S', by simp [h1], by simp [h2, m_lv], h3⟩
  | n + 1, .inr (.inr r) :: S, F, h => by
    obtain ⟨as, S', h1, h2, h3⟩ := pAs_spec n S _ h
    exact ⟨as ++ [.inr r], S', by simp [h1], by simp [h2, m_lv], h3⟩
/-- the links of a call: of method j in method i at index idx -/
def lkM (i idx j : Nat) : Prop := Cond.methodLink (mOw i) idx (mY j) ∈ gw ∨ ∃ h : String, (mOw i, idx, mY j, h) ∈ nstM
theorem good_mW {j : Nat} (h : Cond.code (mY j) (mB j) (mX j) (mRt j) ∈ gw) : GoodIn gw (mW j) := by
  intro w hw
  have h1 : w ∈ gw := by
    rcases List.mem_cons.mp hw with rfl | h1
    · exact h
    · exact h1
  exact ⟨h1, good_of_word (List.mem_filter.mp h1).2⟩
theorem pre_of {D : va_G} {dA : Nat → ClassId} {lo : Nat} {s : State} {H : Heap} {as : List mL} {M : Mm} (hK : KK D dA s) (hR : Rep D dA lo M H) (hlo : lo ≤ H.size) : ∀ U : State, U.heap = H → s.WarmedH U.vm → Px D dA lo as M (as.map fun v => m_val (m_lv v)).toArray U :=
  fun U hU hW => ⟨rfl, by rw [hU]; exact hR, hK.moved hW, by rw [hU]; exact hlo⟩
theorem tr_callS {d i pc j idx n : Nat} {L : List (Option mL)} {S : List mV} {M M1 : Mm} {as : List mL} {r : Option mV} (hd : decode (mB i) pc = .ok (.invokestatic idx, 3)) (hlk : lkM i idx j) (hst : Cond.static (mY j) ∈ gw) (hj : mOK j n) (hn : as.length = n) (hl : as.length ≤ mX j) (hS8 : stk S ≤ 8) (h : Run d j 0 (enL (mX j) as) [] M r M1) :
    Tr (d + 1) i pc L ((as.map m_lv).reverse ++ S) M (pc + 3) L (r.toList ++ S) M1 := by
  refine ⟨h.1, h.2.1, ?_⟩
  intro D dA lo p l e R s m args below meth c Qf H ls locs cells slots C hL hR hS hc hs kk
  have hM := h.met hj hl l D dA lo
  obtain ⟨hx, hb, hml, hown, hts, -, -, hKK, hlo, hRm, -⟩ := id C
  obtain ⟨o1, o2, o3, o4, o5, o6, o7, o8⟩ := hj
  have hpl : ∀ sig, parseMethodDescriptor (mY j).desc = some sig → n = sig.parameters.length := fun sig h => by
    rw [h] at o6
    exact (Option.some.inj o6).symm
  have hstk : ((S.map m_val).map fun v => v.category).sum ≤ 8 := by rw [stk_sum]; exact hS8
  have go : va_Run p l e R s m args below meth c H locs cells slots (M1.sz - M.sz) (M1.sl - M.sl) (F0 m pc ls (((as.map m_lv).reverse ++ S).map m_val)) (S.map m_val) (Qx D dA lo r M1 (as.map fun v => m_val (m_lv v)).toArray) (fr lo) := by
    have hstack : (F0 m pc ls (((as.map m_lv).reverse ++ S).map m_val)).stack = (as.map fun v => m_val (m_lv v)).reverse ++ S.map m_val := by
      show ((as.map m_lv).reverse ++ S).map m_val = _
      rw [List.map_append, List.map_reverse, List.map_map]
      rfl
    rcases hlk with hlk | ⟨hst2, hlk⟩
    · exact va_runS (Ts := gw) ⟨hx, hb, hml, hown, hts⟩ hM ⟨⟨rfl, rfl, hRm.1, by have := hRm.2; show 8 + (mX j + 11) + 36 * d ≤ _; omega, pay_in hts (good_mW o3), List.mem_cons_self, hts _ o3, hts _ o4, o5, hpl, hts _ hlk⟩, hts _ hst⟩ ⟨Px.blind, pre_of hKK hR (Nat.le_trans hlo hS.1)⟩ rfl (by rw [List.length_map]; exact hn) hL.2.1 hstack (lv_room hstk) hd ⟨hc, hs⟩
    · exact va_runSN (Ts := gw) ⟨hx, hb, hml, hown, hts⟩ hM ⟨⟨⟨rfl, rfl, hRm.1, by have := hRm.2; show 8 + (mX j + 11) + 36 * d ≤ _; omega, pay_in hts (good_mW o3), List.mem_cons_self⟩, hts _ o3, hts _ o4, o5, hpl, va_Nw.use rfl (hKK.2.2.2.1 _ hlk)⟩, hts _ hst, trivial⟩ ⟨Px.blind, pre_of hKK hR (Nat.le_trans hlo hS.1)⟩ rfl (by rw [List.length_map]; exact hn) hL.2.1 hstack (lv_room hstk) hd ⟨hc, hs⟩
  refine va_callX go hS fun H1 locs1 hR1 hS1 => ?_
  have := kk H1 ls locs1 hL hR1 hS1
  rw [List.map_append] at this
  cases r <;> exact this
theorem tr_callI {d i pc j idx n a : Nat} {L : List (Option mL)} {S : List mV} {M M1 : Mm} {as : List mL} {r : Option mV} (hd : decode (mB i) pc = .ok (.invokespecial idx, 3)) (hlk : lkM i idx j) (hin : Cond.instanceMethod (mY j) ∈ gw) (hnm : (mY j).name = "<init>") (hrt : mRt j = none) (hj : mOK j n) (hn : as.length = n) (hl : as.length + 1 ≤ mX j) (hS8 : stk S ≤ 8) (h : Run d j 0 (enL (mX j) (.inr (some a) :: as)) [] M r M1) :
    Tr (d + 1) i pc L ((as.map m_lv).reverse ++ .inr (.inr (some a)) :: S) M (pc + 3) L (r.toList ++ S) M1 := by
  refine ⟨h.1, h.2.1, ?_⟩
  intro D dA lo p l e R s m args below meth c Qf H ls locs cells slots C hL hR hS hc hs kk
  have hM := h.met hj hl l D dA lo
  obtain ⟨hx, hb, hml, hown, hts, -, -, hKK, hlo, hRm, -⟩ := id C
  obtain ⟨o1, o2, o3, o4, o5, o6, o7, o8⟩ := hj
  have hpl : ∀ sig, parseMethodDescriptor (mY j).desc = some sig → n = sig.parameters.length := fun sig h => by
    rw [h] at o6
    exact (Option.some.inj o6).symm
  have hstk : ((S.map m_val).map fun v => v.category).sum ≤ 8 := by rw [stk_sum]; exact hS8
  have hcode : Cond.code (mY j) (mB j) (mX j) none ∈ mW j := by rw [← hrt]; exact List.mem_cons_self
  have hcodeB : (Cond.code (mY j) (mB j) (mX j) none).before args s = true := by rw [← hrt]; exact hts _ o3
  have go : va_Run p l e R s m args below meth c H locs cells slots (M1.sz - M.sz) (M1.sl - M.sl) (F0 m pc ls (((as.map m_lv).reverse ++ .inr (.inr (some a)) :: S).map m_val)) (S.map m_val) (Qx D dA lo r M1 (Value.ref a :: as.map fun v => m_val (m_lv v)).toArray) (fr lo) := by
    have hstack : (F0 m pc ls (((as.map m_lv).reverse ++ .inr (.inr (some a)) :: S).map m_val)).stack = (as.map fun v => m_val (m_lv v)).reverse ++ .ref a :: S.map m_val := by
      show ((as.map m_lv).reverse ++ .inr (.inr (some a)) :: S).map m_val = _
      rw [List.map_append, List.map_reverse, List.map_map]
      rfl
    rcases hlk with hlk | ⟨hst2, hlk⟩
    · exact va_runI (Ts := gw) ⟨hx, hb, hml, hown, hts⟩ hM ⟨⟨rfl, rfl, hRm.1, by have := hRm.2; show 8 + (mX j + 11) + 36 * d ≤ _; omega, pay_in hts (good_mW o3), hcode, hcodeB, hts _ o4, o5, hpl, hts _ hlk⟩, hnm, hts _ hin⟩ ⟨Px.blind, pre_of (as := .inr (some a) :: as) hKK hR (Nat.le_trans hlo hS.1)⟩ rfl (by rw [List.length_map]; exact hn) hL.2.1 hstack (lv_room hstk) hd ⟨hc, hs⟩
    · exact va_runIN (Ts := gw) ⟨hx, hb, hml, hown, hts⟩ hM ⟨⟨⟨rfl, rfl, hRm.1, by have := hRm.2; show 8 + (mX j + 11) + 36 * d ≤ _; omega, pay_in hts (good_mW o3), hcode⟩, hcodeB, hts _ o4, o5, hpl, va_Nw.use rfl (hKK.2.2.2.1 _ hlk)⟩, hnm, hts _ hin⟩ ⟨Px.blind, pre_of (as := .inr (some a) :: as) hKK hR (Nat.le_trans hlo hS.1)⟩ rfl (by rw [List.length_map]; exact hn) hL.2.1 hstack (lv_room hstk) hd ⟨hc, hs⟩
  refine va_callX go hS fun H1 locs1 hR1 hS1 => ?_
  have := kk H1 ls locs1 hL hR1 hS1
  rw [List.map_append] at this
  cases r <;> exact this
theorem tr_callV {d i pc j idx n a : Nat} {L : List (Option mL)} {S : List mV} {M M1 : Mm} {as : List mL} {r : Option mV} (hd : decode (mB i) pc = .ok (.invokevirtual idx, 3)) (hlk : lkM i idx j) (hin : Cond.instanceMethod (mY j) ∈ gw) (hse : Cond.selects (mY j).cls (mY j) (mY j) ∈ gw) (hcl : mCl j < 40 ∧ ∃ (T : u_T) (N : Nat), classes[mCl j]? = some ((mY j).cls, T, N)) (hj : mOK j n) (hn : as.length = n) (hl : as.length + 1 ≤ mX j) (hS8 : stk S ≤ 8) (ha : M.sh a = some (mCl j, 0)) (h : Run d j 0 (enL (mX j) (.inr (some a) :: as)) [] M r M1) :
    Tr (d + 1) i pc L ((as.map m_lv).reverse ++ .inr (.inr (some a)) :: S) M (pc + 3) L (r.toList ++ S) M1 := by
  refine ⟨h.1, h.2.1, ?_⟩
  intro D dA lo p l e R s m args below meth c Qf H ls locs cells slots C hL hR hS hc hs kk
  have hM := h.met hj hl l D dA lo
  obtain ⟨hx, hb, hml, hown, hts, -, -, hKK, hlo, hRm, -⟩ := id C
  obtain ⟨o1, o2, o3, o4, o5, o6, o7, o8⟩ := hj
  have hpl : ∀ sig, parseMethodDescriptor (mY j).desc = some sig → n = sig.parameters.length := fun sig h => by
    rw [h] at o6
    exact (Option.some.inj o6).symm
  have hstk : ((S.map m_val).map fun v => v.category).sum ≤ 8 := by rw [stk_sum]; exact hS8
  have hrecv : ∃ cellB : Cell, H[a]? = some cellB ∧ cellB.vm.isStatics = false ∧ s.vm.findClass (mY j).cls = some cellB.cls := by
    obtain ⟨h1, -⟩ := hR.2 a _ _ ha
    obtain ⟨hc1, T, N, hc2⟩ := hcl
    unfold RAt at h1
    rw [if_pos hc1] at h1
    obtain ⟨r, hr, cell, q1, q2, q3, q4⟩ := h1
    exact ⟨cell, q1, by rw [q3]; rfl, by rw [q2]; exact (hKK.1.1 _ _ hc2).2.1⟩
  have go : va_Run p l e R s m args below meth c H locs cells slots (M1.sz - M.sz) (M1.sl - M.sl) (F0 m pc ls (((as.map m_lv).reverse ++ .inr (.inr (some a)) :: S).map m_val)) (S.map m_val) (Qx D dA lo r M1 (Value.ref a :: as.map fun v => m_val (m_lv v)).toArray) (fr lo) := by
    have hstack : (F0 m pc ls (((as.map m_lv).reverse ++ .inr (.inr (some a)) :: S).map m_val)).stack = (as.map fun v => m_val (m_lv v)).reverse ++ .ref a :: S.map m_val := by
      show ((as.map m_lv).reverse ++ .inr (.inr (some a)) :: S).map m_val = _
      rw [List.map_append, List.map_reverse, List.map_map]
      rfl
    rcases hlk with hlk | ⟨hst2, hlk⟩
    · exact va_runV (Ts := gw) (C := (mY j).cls) ⟨hx, hb, hml, hown, hts⟩ hM ⟨⟨rfl, rfl, hRm.1, by have := hRm.2; show 8 + (mX j + 11) + 36 * d ≤ _; omega, pay_in hts (good_mW o3), List.mem_cons_self, hts _ o3, hts _ o4, o5, hpl, hts _ hlk⟩, hts _ hin, hts _ hse⟩ ⟨Px.blind, hrecv, pre_of (as := .inr (some a) :: as) hKK hR (Nat.le_trans hlo hS.1)⟩ rfl (by rw [List.length_map]; exact hn) hL.2.1 hstack (lv_room hstk) hd ⟨hc, hs⟩
    · exact va_runVN (Ts := gw) (C := (mY j).cls) ⟨hx, hb, hml, hown, hts⟩ hM ⟨⟨⟨rfl, rfl, hRm.1, by have := hRm.2; show 8 + (mX j + 11) + 36 * d ≤ _; omega, pay_in hts (good_mW o3), List.mem_cons_self⟩, hts _ o3, hts _ o4, o5, hpl, va_Nw.use rfl (hKK.2.2.2.1 _ hlk)⟩, hts _ hin, hts _ hse⟩ ⟨Px.blind, hrecv, pre_of (as := .inr (some a) :: as) hKK hR (Nat.le_trans hlo hS.1)⟩ rfl (by rw [List.length_map]; exact hn) hL.2.1 hstack (lv_room hstk) hd ⟨hc, hs⟩
  refine va_callX go hS fun H1 locs1 hR1 hS1 => ?_
  have := kk H1 ls locs1 hL hR1 hS1
  rw [List.map_append] at this
  cases r <;> exact this
