/-! switches, clone, checkcast -/
theorem swc_tbl (pc dt : Nat) (x : Int32) (F : Nat → Prop) : ∀ (os : List Int) (lo : Int), swc (tblC pc lo os) dt x F → (∃ (j : Nat) (o : Int), os[j]? = some o ∧ x.toInt = lo + j ∧ F (((pc : Int) + o).toNat)) ∨ ((∀ j : Nat, j < os.length → ¬ x.toInt = lo + j) ∧ F dt)
  | [], lo, h => Or.inr ⟨fun j hj => absurd hj (Nat.not_lt_zero j), h⟩
  | o :: os, lo, h => by
    by_cases hx : x.toInt = lo
    · exact Or.inl ⟨0, o, rfl, by simpa using hx, h.1 hx⟩
    · rcases swc_tbl pc dt x F os (lo + 1) (h.2 hx) with ⟨j, o', h1, h2, h3⟩ | ⟨h1, h2⟩
      · exact Or.inl ⟨j + 1, o', by simpa using h1, by rw [h2]; omega, h3⟩
      · refine Or.inr ⟨fun j hj hq => ?_, h2⟩
        cases j with
        | zero => exact hx (by simpa using hq)
        | succ j => exact h1 j (by simpa using hj) (by rw [hq]; omega)
theorem tr_table {d i pc : Nat} {L : List (Option mL)} {S : List mV} {M : Mm} {dt lo hi : Int} {offs : Array Int} {len : Nat} {x : Int32} {F : Nat → Prop} (hd : decode (mB i) pc = .ok (.tableswitch dt lo hi offs, len)) (hh : hi + 1 = lo + offs.size) (hp : ∀ o ∈ offs.toList, 0 ≤ (pc : Int) + o) (hdp : 0 ≤ (pc : Int) + dt)
    (h : swc (tblC pc lo offs.toList) ((pc : Int) + dt).toNat x F) : ∃ t, F t ∧ Tr d i pc L (.inl x :: S) M t L S M := by
  rcases swc_tbl pc _ x F offs.toList lo h with ⟨j, o, h1, h2, h3⟩ | ⟨h1, h2⟩
  · have hj : j < offs.size := by have := (List.getElem?_eq_some_iff.mp h1).1; simpa using this
    have ho : 0 ≤ (pc : Int) + o := hp o (List.mem_of_getElem? h1)
    refine ⟨_, h3, Tr.pure ?_⟩
    intro D dA lo' p l e R s m args below meth c Qf H ls locs cells slots C hL hR hS hc hs k
    obtain ⟨hx, hb, -⟩ := id C
    exact lv_tableIn hx hb hd (by omega) (by omega) (by rw [h2, show (lo + (j : Int) - lo).toNat = j by omega]; simpa using h1) (by omega) (k ls hL)
  · refine ⟨_, h2, Tr.pure ?_⟩
    intro D dA lo' p l e R s m args below meth c Qf H ls locs cells slots C hL hR hS hc hs k
    obtain ⟨hx, hb, -⟩ := id C
    refine lv_tableOut hx hb hd ?_ (by omega) (k ls hL)
    by_cases h4 : x.toInt < lo
    · exact Or.inl h4
    · by_cases h5 : hi < x.toInt
      · exact Or.inr h5
      · exact absurd (by omega) (h1 (x.toInt - lo).toNat (by rw [Array.length_toList]; omega))
theorem swc_lk (pc : Nat) (dt : Int) (x : Int32) (F : Nat → Prop) : ∀ ps : List (Int × Int), swc (ps.map fun c => (c.1, ((pc : Int) + c.2).toNat)) ((pc : Int) + dt).toNat x F → F (((pc : Int) + Op.lookupswitch.offset ps dt x.toInt).toNat) ∧ (Op.lookupswitch.offset ps dt x.toInt = dt ∨ ∃ q ∈ ps, Op.lookupswitch.offset ps dt x.toInt = q.2)
  | [], h => ⟨h, Or.inl rfl⟩
  | (a, o) :: ps, h => by
    rw [Op.lookupswitch.offset_cons]
    by_cases hx : a = x.toInt
    · rw [if_pos hx]
      exact ⟨h.1 hx.symm, Or.inr ⟨(a, o), List.mem_cons_self, rfl⟩⟩
    · rw [if_neg hx]
      obtain ⟨h1, h2⟩ := swc_lk pc dt x F ps (h.2 (fun q => hx q.symm))
      refine ⟨h1, h2.imp id ?_⟩
      rintro ⟨q, hq, e⟩
      exact ⟨q, List.mem_cons_of_mem _ hq, e⟩
theorem tr_lookup {d i pc : Nat} {L : List (Option mL)} {S : List mV} {M : Mm} {dt : Int} {ps : Array (Int × Int)} {len : Nat} {x : Int32} {F : Nat → Prop} (hd : decode (mB i) pc = .ok (.lookupswitch dt ps, len)) (hso : (ps.toList.zip (ps.toList.drop 1)).all (fun (a, next) => a.1 < next.1) = true) (hp : ∀ q ∈ ps.toList, 0 ≤ (pc : Int) + q.2) (hdp : 0 ≤ (pc : Int) + dt)
    (h : swc (ps.toList.map fun c => (c.1, ((pc : Int) + c.2).toNat)) ((pc : Int) + dt).toNat x F) : ∃ t, F t ∧ Tr d i pc L (.inl x :: S) M t L S M := by
  obtain ⟨h1, h2⟩ := swc_lk pc dt x F ps.toList h
  refine ⟨_, h1, Tr.pure ?_⟩
  intro D dA lo' p l e R s m args below meth c Qf H ls locs cells slots C hL hR hS hc hs k
  obtain ⟨hx, hb, -⟩ := id C
  refine lv_lookup hx hb hd hso rfl ?_ (k ls hL)
  have h0 : 0 ≤ (pc : Int) + Op.lookupswitch.offset ps.toList dt x.toInt := by
    rcases h2 with h2 | ⟨q, hq, h2⟩
    · rw [h2]; exact hdp
    · rw [h2]; exact hp q hq
  omega
theorem tr_cast {d i pc : Nat} {L : List (Option mL)} {S : List mV} {M : Mm} {idx a n : Nat} (hd : decode (mB i) pc = .ok (.checkcast idx, 3)) (hw : Cond.classLink (mOw i) idx "[I" ∈ gw) (ha : M.sh a = some (41, n)) : Tr d i pc L (.inr (.inr (some a)) :: S) M (pc + 3) L (.inr (.inr (some a)) :: S) M := by
  refine Tr.pure ?_
  intro D dA lo p l e R s m args below meth c Qf H ls locs cells slots C hL hR hS hcc hss kk
  obtain ⟨hx, hb, -, hown, hts, -, -, hKK, -⟩ := id C
  obtain ⟨h1, -⟩ := hR.2 a 41 n ha
  have h3 := h1.arr (by omega) (by omega)
  have hnm : s.vm.findClass "[I" = some (dA 41) := (hKK.2.1 41 .int rfl).2 (by omega)
  intro T hT X
  obtain ⟨vm', X', st⟩ := X.checkcastYes hx hown (hts _ hw) (by rw [hT]; exact h3) rfl hnm (va_asg _ _) (g := F0 m pc ls ((.inr (.inr (some a)) :: S).map m_val)) rfl rfl (by rw [hb]; exact hd)
  obtain ⟨t, a1, b1⟩ := kk ls hL (T.setVm vm') hT X'
  exact ⟨t, st t a1, b1⟩
theorem m_rd_cp {M : Mm} {a : Nat} {t : Nat × Nat} {n : Nat} (ty b j : Nat) (h : b ≠ M.sz) : m_rd (M.cp a t n) ty b j = m_rd M ty b j := by
  unfold m_rd
  split
  · show Sum.inr (Sum.inl (if b = M.sz then _ else _)) = _
    rw [if_neg h]; rfl
  · show Sum.inr (Sum.inr (if b = M.sz then _ else _)) = _
    rw [if_neg h]; rfl
  · show Sum.inl (if b = M.sz then _ else _) = _
    rw [if_neg h]; rfl
theorem m_rd_cp0 {M : Mm} {a : Nat} {t : Nat × Nat} {n : Nat} (ty j : Nat) : m_rd (M.cp a t n) ty M.sz j = m_rd M ty a j := by
  unfold m_rd
  split
  · show Sum.inr (Sum.inl (if M.sz = M.sz then _ else _)) = _
    rw [if_pos rfl]; rfl
  · show Sum.inr (Sum.inr (if M.sz = M.sz then _ else _)) = _
    rw [if_pos rfl]; rfl
  · show Sum.inl (if M.sz = M.sz then _ else _) = _
    rw [if_pos rfl]; rfl
def clLk (i idx : Nat) : Prop := Cond.methodLink (mOw i) idx ⟨"[I", "clone", "()Ljava/lang/Object;"⟩ ∈ gw ∧ Cond.sameMethod "[I" "java/lang/Object" "clone" "()Ljava/lang/Object;" ∈ gw ∧ Cond.native ⟨"java/lang/Object", "clone", "()Ljava/lang/Object;"⟩ ∈ gw ∧ Cond.instanceMethod ⟨"java/lang/Object", "clone", "()Ljava/lang/Object;"⟩ ∈ gw ∧ Cond.selects "[I" ⟨"[I", "clone", "()Ljava/lang/Object;"⟩ ⟨"java/lang/Object", "clone", "()Ljava/lang/Object;"⟩ ∈ gw
theorem tr_clone {d i pc : Nat} {L : List (Option mL)} {S : List mV} {M : Mm} {idx a n : Nat} (hd : decode (mB i) pc = .ok (.invokevirtual idx, 3)) (hw : clLk i idx) (ha : M.sh a = some (41, n)) (hdp : 0 < d) (hS8 : stk S ≤ 8) : Tr d i pc L (.inr (.inr (some a)) :: S) M (pc + 3) L (.inr (.inr (some M.sz)) :: S) (M.cp a (41, n) n) := by
  obtain ⟨w1, w2, w3, w4, w5⟩ := hw
  have e1 : (M.cp a (41, n) n).sz - M.sz = 1 := by show M.sz + 1 - M.sz = 1; omega
  have e2 : (M.cp a (41, n) n).sl - M.sl = n := by show M.sl + n - M.sl = n; omega
  refine ⟨by show M.sz ≤ M.sz + 1; omega, by show M.sl ≤ M.sl + n; omega, ?_⟩
  intro D dA lo p l e R s m args below meth c Qf H ls locs cells slots C hL hR hS hc hs kk
  rw [e1] at hc kk
  rw [e2] at hs kk
  obtain ⟨hx, hb, hml, hown, hts, -, -, hKK, hlo, hRm, -⟩ := id C
  obtain ⟨h1, hal⟩ := hR.2 a 41 n ha
  have h3 := h1.arr (by omega) (by omega)
  have hA := (hKK.2.1 41 .int rfl).1
  have hnm : s.vm.findClass "[I" = some (dA 41) := (hKK.2.1 41 .int rfl).2 (by omega)
  obtain ⟨c0, t0', f1, f2, f3⟩ := Cond.castable_spec (va_Nw.use (A := args) rfl hKK.2.2.2.2.2)
  cases hnm.symm.trans f1
  generalize hcell : arrV (dA 41) n (fun j => m_val (m_rd M (eTy 41) a j)) = cell at h3
  have hsz : cell.slots.size = n := by rw [← hcell]; exact arrV_size _ _ _
  have hvm0 : cell.vm = .none := by rw [← hcell]; rfl
  have hcl0 : cell.cls = dA 41 := by rw [← hcell]; rfl
  have hcellE : ({ cls := cell.cls, slots := cell.slots } : Cell) = cell := by rw [← hcell]; rfl
  have hfit : ∀ (i : Nat) (v : Value), cell.slots[i]? = some v → fits .int v = true := by
    intro q v hv
    have hq : q < n := by rw [← hsz]; exact (Array.getElem?_eq_some_iff.mp hv).1
    rw [← hcell, arrV_read _ _ hq] at hv
    cases hv
    rfl
  intro T hT X
  have hcellT : T.heap[a]? = some cell := by rw [hT]; exact h3
  obtain ⟨-, kA, hkA, comp, hkind⟩ := State.isArrayOf_alike X.warmed.alike (hA 0 (fun _ => .null))
  obtain ⟨-, kS, hkS, compS, hkindS⟩ := hA 0 (fun _ => .null)
  have hstk : ((S.map m_val).map fun v => v.category).sum ≤ 8 := by rw [stk_sum]; exact hS8
  obtain ⟨vm', X', st⟩ := X.cloneArray hx hown (hts _ w1) (hts _ w2) (hts _ w3) (hts _ w4) (hts _ w5) (a := a) (cell := cell) hcellT (fun k h => by rw [hvm0] at h; cases h) (by rw [hvm0]; exact fun h => by cases h) (by rw [hcl0]; exact hnm) f2 (by rw [hcl0]; exact f3)
    (fun i v hv => by
      rw [hcl0]
      have hk' : T.vm.classes[dA 41]? = some kA := hkA
      simpa [State.fitsSlot, State.slotType?, hk', hkind] using hfit i v hv)
    (g := F0 m pc ls ((.inr (.inr (some a)) :: S).map m_val)) rfl (by rw [hml]; exact hL.2.1) rfl (by rw [hb]; exact hd) (by omega) (by show 2 * 0 + _ + 14 ≤ _; have := hRm.2; omega) hc (by rw [hsz]; exact hs) (hloader := by rw [hcl0]; exact Vm.clonesLoader_of_array hkS hkindS)
  rw [hcellE, hsz] at X'
  generalize hH1 : H.push cell = H1
  have z1 : H1.size = H.size + 1 := by rw [← hH1, Array.size_push]
  have g1 : H1[H.size]? = some cell := by rw [← hH1, Array.getElem?_push_size]
  have o1 : ∀ q : Nat, q < H.size → H1[q]? = H[q]? := fun q hq => by rw [← hH1, Array.getElem?_push, if_neg (Nat.ne_of_lt hq)]
  obtain ⟨t, b1, b2⟩ := kk H1 ls locs hL (hR.push (fun b => rfl) rfl (fun ty b j hb => m_rd_cp ty b j hb) z1 o1 (Nat.le_trans hlo hS.1) (by
    unfold RAt
    rw [if_neg (by omega), if_neg (by omega), ← hR.1, g1, ← hcell]
    congr 2
    funext j
    rw [hR.1, m_rd_cp0])) (hS.more rfl z1 o1) ((T.setVm vm').pushCell cell) (by rw [← hH1, ← hT]; rfl) X'
  refine ⟨t, st t ?_, b2⟩
  rw [hcellE, hT, hR.1]
  exact b1
theorem tr_ldc {d i pc : Nat} {L : List (Option mL)} {S : List mV} {M : Mm} {idx : Nat} {v : Int32} (hd : decode (mB i) pc = .ok (.ldc idx, 2)) (hw : Cond.constant (mOw i) idx v ∈ gw) : Tr d i pc L S M (pc + 2) L (.inl v :: S) M := by
  refine Tr.pure ?_
  intro D dA lo p l e R s m args below meth c Qf H ls locs cells slots C hL hR hS hcc hss kk
  obtain ⟨hx, hb, -, hown, hts, -⟩ := id C
  exact lv_ldc hx hb hown (hts _ hw) hd (kk ls hL)
theorem tr_ldc2 {d i pc : Nat} {L : List (Option mL)} {S : List mV} {M : Mm} {idx : Nat} {v : Int64} (hd : decode (mB i) pc = .ok (.ldc2_w idx, 3)) (hw : Cond.constantLong (mOw i) idx v ∈ gw) : Tr d i pc L S M (pc + 3) L (.inr (.inl v) :: S) M := by
  refine Tr.pure ?_
  intro D dA lo p l e R s m args below meth c Qf H ls locs cells slots C hL hR hS hcc hss kk
  obtain ⟨hx, hb, -, hown, hts, -⟩ := id C
  exact lv_ldc2 hx hb hown (hts _ hw) hd (kk ls hL)
def oiLk (i idx : Nat) : Prop := Cond.methodLink (mOw i) idx Lib.objectInit ∈ gw ∧ Cond.instanceMethod Lib.objectInit ∈ gw ∧ Cond.code Lib.objectInit ⟨#[0xb1]⟩ 1 none ∈ gw
theorem tr_oinit {d i pc : Nat} {L : List (Option mL)} {S : List mV} {M : Mm} {idx a : Nat} (hd : decode (mB i) pc = .ok (.invokespecial idx, 3)) (hw : oiLk i idx) (hdp : 0 < d) (hS8 : stk S ≤ 8) : Tr d i pc L (.inr (.inr (some a)) :: S) M (pc + 3) L S M := by
  refine Tr.pure ?_
  intro D dA lo p l e R s m args below meth c Qf H ls locs cells slots C hL hR hS hcc hss kk
  obtain ⟨hx, hb, hml, hown, hts, -, -, hKK, hlo, hRm, -⟩ := id C
  have hstk : ((S.map m_val).map fun v => v.category).sum ≤ 8 := by rw [stk_sum]; exact hS8
  refine W.objInit hx hb hown (hts _ hw.1) (hts _ hw.2.1) (hts _ hw.2.2) rfl (by rw [hml]; exact hL.2.1) rfl hd (by omega) (by show 2 * 0 + _ + 12 ≤ _; have := hRm.2; omega) ?_
  exact kk ls hL
def mmLk (i idx r : Nat) : Prop := (r = 1001 ∧ Cond.methodLink (mOw i) idx Lib.Math.max.name ∈ gw ∧ Cond.static Lib.Math.max.name ∈ gw ∧ Cond.initialized "java/lang/Math" ∈ gw ∧ Cond.code Lib.Math.max.name Lib.Math.max.code 2 (some .int) ∈ gw) ∨ (r = 1002 ∧ Cond.methodLink (mOw i) idx Lib.Math.min.name ∈ gw ∧ Cond.static Lib.Math.min.name ∈ gw ∧ Cond.initialized "java/lang/Math" ∈ gw ∧ Cond.code Lib.Math.min.name Lib.Math.min.code 2 (some .int) ∈ gw)
theorem tr_mm {d i pc : Nat} {L : List (Option mL)} {S : List mV} {M : Mm} {idx r : Nat} {x y : Int32} (hd : decode (mB i) pc = .ok (.invokestatic idx, 3)) (hw : mmLk i idx r) (hdp : 0 < d) (hS8 : stk S ≤ 8) : Tr d i pc L (.inl y :: .inl x :: S) M (pc + 3) L (.inl (mmx r x y) :: S) M := by
  refine Tr.pure ?_
  intro D dA lo p l e R s m args below meth c Qf H ls locs cells slots C hL hR hS hcc hss kk
  obtain ⟨hx, hb, hml, hown, hts, -, -, hKK, hlo, hRm, -⟩ := id C
  have hstk : ((S.map m_val).map fun v => v.category).sum ≤ 8 := by rw [stk_sum]; exact hS8
  rcases hw with ⟨rfl, w1, w2, w3, w4⟩ | ⟨rfl, w1, w2, w3, w4⟩
  · exact va_mmax hx hb (by rw [hml]; exact hL.2.1.symm) hown (hts _ w1) (hts _ w2) (hts _ w3) (hts _ w4) (by omega) (by have := hRm.2; omega) hcc hss hd (kk ls hL)
  · exact va_mmin hx hb (by rw [hml]; exact hL.2.1.symm) hown (hts _ w1) (hts _ w2) (hts _ w3) (hts _ w4) (by omega) (by have := hRm.2; omega) hcc hss hd (kk ls hL)
