/-! STEPS ON THE MEMORY -/
def fLk (own : String) (idx t k ty : Nat) : Prop := ∃ (C : String) (T : u_T) (N : Nat), classes[t]? = some (C, T, N) ∧ t < 40 ∧ k < N ∧ tyC (tyOf t k) = ty ∧ (Cond.fieldLink own idx (T k).1 (T k).2.1 (T k).2.2.1 ∈ gw ∨ ∃ h : String, (own, idx, (T k).1, (T k).2.1, (T k).2.2.1, h) ∈ nstF)
def fLkP (i idx t k ty : Nat) : Prop := ∃ (C : String) (T : u_T) (N : Nat), classes[t]? = some (C, T, N) ∧ t < 40 ∧ k < N ∧ tyC (tyOf t k) = ty ∧ (((T k).2.2.2 = false ∧ (Cond.fieldLink (mOw i) idx (T k).1 (T k).2.1 (T k).2.2.1 ∈ gw ∨ ∃ h : String, (mOw i, idx, (T k).1, (T k).2.1, (T k).2.2.1, h) ∈ nstF)) ∨ ((T k).2.2.2 = true ∧ mIn i = true ∧ (T k).1 = mOw i ∧ Cond.fieldLink (mOw i) idx (T k).1 (T k).2.1 (T k).2.2.1 ∈ gw))
theorem tr_getfield {d i pc : Nat} {L : List (Option mL)} {S : List mV} {M : Mm} {idx a t k ty : Nat} (hd : decode (mB i) pc = .ok (.getfield idx, 3)) (hf : fLk (mOw i) idx t k ty) (ha : M.sh a = some (t, 0)) : Tr d i pc L (.inr (.inr (some a)) :: S) M (pc + 3) L (m_rd M ty a k :: S) M := by
  obtain ⟨C0, T, N, hc, ht, hk, rfl, hl⟩ := hf
  refine Tr.pure ?_
  intro D dA lo p l e R s m args below meth c Qf H ls locs cells slots C hL hR hS hcc hss kk
  obtain ⟨hx, hb, -, hown, hts, -, -, hKK, -⟩ := id C
  obtain ⟨h1, -⟩ := hR.2 a t 0 ha
  unfold RAt at h1
  rw [if_pos ht] at h1
  obtain ⟨r, hr, cell, q1, q2, q3, q4⟩ := h1
  have e9 : r = (C0, T, N) := Option.some.inj (hr.symm.trans hc)
  subst e9
  obtain ⟨hSl, hfc, kC, hkC, hkind⟩ := hKK.1.1 t _ hc
  obtain ⟨cf, kf, fi, f, hi, hsl⟩ := hSl k hk
  have hst := (u_facts hfc hkC (u_lays hts (cls_in t C0 T N hc) hk) hi).1
  have hv : cell.slots[f.slot]? = some (m_val (m_rd M (tyC (tyOf t k)) a k)) := by rw [hsl]; exact q4 k hk
  have hu : cell.vm ≠ .unknown := by rw [q3]; exact fun h => by cases h
  rcases hl with hl | ⟨h, hl⟩
  · exact W.getf hx hb hown (hts _ hl) hi hst q1 hu hv rfl rfl hd (kk ls hL)
  · exact va_Wgetf hx hb hown (va_Nw.use rfl (hKK.2.2.1 _ hl)) hi hst q1 hu hv rfl rfl hd (kk ls hL)
/-- a step that changes the memory, and makes nothing -/
theorem Tr.memo {d i pc : Nat} {L : List (Option mL)} {S : List mV} {M M1 : Mm} {pc1 : Nat} {S1 : List mV} (hsz : M1.sz = M.sz) (hsl : M1.sl = M.sl)
    (h : ∀ (D : va_G) (dA : Nat → ClassId) (lo : Nat) (p : Program) (l : Launch) (e : Env) (R : Room) (s : State) (m : MethodId) (args : Array Value) (below : List Frame) (meth : Method) (c : Code) (Qf : State → Prop) (H : Heap) (ls : Array Slot) (locs : List Loc) (cells slots : Nat),
      Cx i d D dA lo p R s m args meth c → LR ls (mX i) L → Rep D dA lo M H → va_S (fr lo) s.heap H locs → cells ≤ R.cells → slots ≤ R.slots →
      (∀ (H1 : Heap) (locs1 : List Loc), Rep D dA lo M1 H1 → va_S (fr lo) s.heap H1 locs1 → W p l e R s m args below meth c H1 locs1 cells slots Qf (F0 m pc1 ls (S1.map m_val))) →
      W p l e R s m args below meth c H locs cells slots Qf (F0 m pc ls (S.map m_val))) : Tr d i pc L S M pc1 L S1 M1 := by
  refine ⟨by omega, by omega, ?_⟩
  intro D dA lo p l e R s m args below meth c Qf H ls locs cells slots C hL hR hS hc hs k
  refine h D dA lo p l e R s m args below meth c Qf H ls locs cells slots C hL hR hS (by omega) (by omega) fun H1 locs1 hR1 hS1 => ?_
  have := k H1 ls locs1 hL hR1 hS1
  rw [hsz, hsl, Nat.sub_self, Nat.sub_self] at this
  exact this
theorem tr_putG {d i pc : Nat} {L : List (Option mL)} {S : List mV} {M M' : Mm} {idx a t k ty : Nat} {v : mV} (hd : decode (mB i) pc = .ok (.putfield idx, 3)) (hf : fLkP i idx t k ty) (ha : M.sh a = some (t, 0)) (hsh : M'.sh = M.sh) (hsz : M'.sz = M.sz) (hsl : M'.sl = M.sl)
    (hM : ∀ ty b j, (b ≠ a ∨ j ≠ k) → m_rd M' ty b j = m_rd M ty b j) (hv : m_rd M' ty a k = v) (hn : ∀ ft, tyC ft = ty → narrow ft (m_val v) = m_val v ∧ fits ft (m_val v) = true) : Tr d i pc L (v :: .inr (.inr (some a)) :: S) M (pc + 3) L S M' := by
  obtain ⟨C0, T, N, hc, ht, hk, rfl, hl⟩ := hf
  refine Tr.memo hsz hsl ?_
  intro D dA lo p l e R s m args below meth c Qf H ls locs cells slots C hL hR hS hcc hss kk
  obtain ⟨hx, hb, -, hown, hts, -, -, hKK, hlo, -, hin⟩ := id C
  obtain ⟨h1, hal⟩ := hR.2 a t 0 ha
  have hal : lo ≤ a := hal (by omega)
  unfold RAt at h1
  rw [if_pos ht] at h1
  obtain ⟨r, hr, cell, q1, q2, q3, q4⟩ := h1
  have e9 : r = (C0, T, N) := Option.some.inj (hr.symm.trans hc)
  subst e9
  have hap := va_apart (own := C0) hts (cls_in t C0 T N hc) (tyOf t) (cls_ty t C0 T N hc) (cls_nm t C0 T N hc) hKK.1 hc
  obtain ⟨hSl, hfc, kC, hkC, hkind⟩ := hKK.1.1 t _ hc
  obtain ⟨cf, kf, fi, f, hi, hsl2⟩ := hSl k hk
  have hst := (u_facts hfc hkC (u_lays hts (cls_in t C0 T N hc) hk) hi).1
  obtain ⟨hn1, hn2⟩ := hn (tyOf t k) rfl
  have hlay := hts _ (cls_in t C0 T N hc _ (u_in_lay hk))
  unfold u_lay at hlay
  have hlt : f.slot < cell.slots.size := by rw [hsl2]; exact k2_hasslot (q4 k hk)
  have fin : ∀ H' : Heap, H'[a]? = some (cell.setSlot f.slot (m_val v)) → H'.size = H.size → (∀ q, q ≠ a → H'[q]? = H[q]?) → W p l e R s m args below meth c H' (locs ++ [⟨a, f.slot⟩]) cells slots Qf (F0 m (pc + 3) ls (S.map m_val)) := by
    intro H' e1 e2 e3
    rw [hsl2] at e1
    refine kk H' _ (hR.put hsh hsz hM e2 e3 fun t' n' h' => ?_) (hS.put e2 e3 hal)
    rw [ha] at h'
    cases h'
    exact RAt.putO (H := H) ht hc hk hap q2 q3 q4 e1 hM (by rw [hv])
  rcases hl with ⟨hfin, hl⟩ | ⟨hfin, hini, hdecl, hl⟩
  · rw [if_neg (by rw [hfin]; decide)] at hlay
    have h6 := u_store hfc hkC hkind hlay hi (cls_ty t C0 T N hc k hk) hn1 hn2
    rcases hl with hl | ⟨h, hl⟩
    · exact W.putK hx hb (f := f) ⟨hown, hts _ hl, ⟨_, _, _, hi⟩, hst⟩ (by rw [q2]; exact h6) q1 q3 hlt rfl rfl hd fin
    · exact va_WputK hx hb (f := f) hown (va_Nw.use rfl (hKK.2.2.1 _ hl)) hi hst (by rw [q2]; exact h6) q1 q3 hlt rfl rfl hd fin
  · rw [if_pos hfin] at hlay
    have hcf : m.cls = cf := by
      obtain ⟨_, _, c', _, _, _, -, -, hf', -, -, -, hown2, -⟩ := Cond.laysFinal_spec hlay
      have e1 : c' = cf := by have := hi.symm.trans hf'; simp at this; exact this.1.symm
      rw [hdecl] at hown2
      rw [← e1]; exact Option.some.inj (hown.symm.trans hown2)
    have h6 := u_fits hfc hkC hkind (Or.inr hlay) hi (cls_ty t C0 T N hc k hk) hn1 hn2
    exact W.putFinK hx hb hown (hts _ hl) hi hst hcf (hin hini) (by rw [q2]; exact h6) q1 q3 hlt rfl rfl hd fin
theorem nf_i {ft : FieldType} (h : tyC ft = 0) (x : Int32) : narrow ft (.int x) = .int x ∧ fits ft (.int x) = true := by
  cases ft <;> first | exact ⟨rfl, rfl⟩ | (exfalso; revert h; simp [tyC])
theorem nf_z {ft : FieldType} (h : tyC ft = 1) (x : Int32) (hx : x = 0 ∨ x = 1) : narrow ft (.int x) = .int x ∧ fits ft (.int x) = true := by
  cases ft <;> first | (exfalso; revert h; simp [tyC]; done) | (rcases hx with rfl | rfl <;> exact ⟨by decide, by decide⟩)
theorem nf_l {ft : FieldType} (h : tyC ft = 2) (x : Int64) : narrow ft (.long x) = .long x ∧ fits ft (.long x) = true := by
  cases ft <;> first | exact ⟨rfl, rfl⟩ | (exfalso; revert h; simp [tyC])
theorem nf_r {ft : FieldType} (h : tyC ft = 3) (x : Option Nat) : narrow ft (va_rf x) = va_rf x ∧ fits ft (va_rf x) = true := by
  cases x <;> cases ft <;> first | exact ⟨rfl, rfl⟩ | (exfalso; revert h; simp [tyC])
theorem tr_puti {d i pc : Nat} {L : List (Option mL)} {S : List mV} {M : Mm} {idx a t k : Nat} {x : Int32} (hd : decode (mB i) pc = .ok (.putfield idx, 3)) (hf : fLkP i idx t k 0) (ha : M.sh a = some (t, 0)) : Tr d i pc L (.inl x :: .inr (.inr (some a)) :: S) M (pc + 3) L S (M.si a k x) :=
  tr_putG hd hf ha rfl rfl rfl m_rd_si (by rw [m_rd0, si_it, if_pos ⟨rfl, rfl⟩]) (fun ft h => nf_i h x)
theorem tr_putz {d i pc : Nat} {L : List (Option mL)} {S : List mV} {M : Mm} {idx a t k : Nat} {x : Int32} (hx : x = 0 ∨ x = 1) (hd : decode (mB i) pc = .ok (.putfield idx, 3)) (hf : fLkP i idx t k 1) (ha : M.sh a = some (t, 0)) : Tr d i pc L (.inl x :: .inr (.inr (some a)) :: S) M (pc + 3) L S (M.si a k x) :=
  tr_putG hd hf ha rfl rfl rfl m_rd_si (by rw [m_rd1, si_it, if_pos ⟨rfl, rfl⟩]) (fun ft h => nf_z h x hx)
theorem tr_putl {d i pc : Nat} {L : List (Option mL)} {S : List mV} {M : Mm} {idx a t k : Nat} {x : Int64} (hd : decode (mB i) pc = .ok (.putfield idx, 3)) (hf : fLkP i idx t k 2) (ha : M.sh a = some (t, 0)) : Tr d i pc L (.inr (.inl x) :: .inr (.inr (some a)) :: S) M (pc + 3) L S (M.sg a k x) :=
  tr_putG hd hf ha rfl rfl rfl m_rd_sg (by rw [m_rd2, sg_lg, if_pos ⟨rfl, rfl⟩]) (fun ft h => nf_l h x)
theorem tr_putr {d i pc : Nat} {L : List (Option mL)} {S : List mV} {M : Mm} {idx a t k : Nat} {x : Option Nat} (hd : decode (mB i) pc = .ok (.putfield idx, 3)) (hf : fLkP i idx t k 3) (ha : M.sh a = some (t, 0)) : Tr d i pc L (.inr (.inr x) :: .inr (.inr (some a)) :: S) M (pc + 3) L S (M.sr a k x) :=
  tr_putG hd hf ha rfl rfl rfl m_rd_sr (by rw [m_rd3, sr_rf, if_pos ⟨rfl, rfl⟩]) (fun ft h => nf_r h x)
theorem inB_vp {i : Int32} {n : Nat} (h : inB i n) : ¬ (i < 0 ∨ n ≤ i.toNatClampNeg) := vp_in_iff.mpr h
theorem inB_lt {i : Int32} {n : Nat} (h : inB i n) : i.toNatClampNeg < n := Nat.not_le.mp fun q => inB_vp h (Or.inr q)
theorem rTyB_ge {t : Nat} (h : rTyB t = true) : 50 ≤ t ∧ t < 90 := by
  unfold rTyB at h
  simp only [Bool.or_eq_true, Nat.beq_eq] at h
  omega
theorem aTy_arr {t : Nat} {ty : FieldType} (h : aTy t = some ty) : ¬ t < 40 := by
  intro h1
  unfold aTy at h
  rw [if_neg (by omega), if_neg (by omega), if_neg (by omega), if_neg (fun q => by have := rTyB_ge q; omega)] at h
  cases h
/-- what the heap has at an array -/
theorem RAt.arr {D : va_G} {dA : Nat → ClassId} {M : Mm} {a t n : Nat} {H : Heap} (h : RAt D dA M a t n H) (h1 : ¬ t < 40) (h2 : ¬ t = 40) : H[a]? = some (arrV (dA t) n (fun j => m_val (m_rd M (eTy t) a j))) := by
  unfold RAt at h
  rw [if_neg h1, if_neg h2] at h
  exact h
theorem scr_arr {s : State} {scr : Cell} {cA : ClassId} {ty : FieldType} (h : ArrOfT s cA ty) (h1 : scr.cls = cA) (h2 : ∀ k, scr.vm ≠ .statics k) : s.isArrayOf scr ty := by
  obtain ⟨-, k, hk, comp, hkind⟩ := h 0 (fun _ => .null)
  exact ⟨h2, k, by rw [h1]; exact hk, comp, hkind⟩
theorem tr_alen {d i pc : Nat} {L : List (Option mL)} {S : List mV} {M : Mm} {a t n : Nat} {ty : FieldType} (hd : decode (mB i) pc = .ok (.arraylength, 1)) (hty : aTy t = some ty) (ha : M.sh a = some (t, n)) : Tr d i pc L (.inr (.inr (some a)) :: S) M (pc + 1) L (.inl (nI n) :: S) M := by
  refine Tr.pure ?_
  intro D dA lo p l e R s m args below meth c Qf H ls locs cells slots C hL hR hS hcc hss kk
  obtain ⟨hx, hb, -, hown, hts, -, -, hKK, -⟩ := id C
  obtain ⟨h1, -⟩ := hR.2 a t n ha
  by_cases h2 : t = 40
  · subst h2
    unfold RAt at h1
    rw [if_neg (by omega), if_pos rfl] at h1
    obtain ⟨scr, e1, e2, e3, e4, e5, e6⟩ := h1
    exact W.alen (n := nI n) hx hb e1 (scr_arr (hKK.2.1 40 ty hty).1 e2 e3) (by rw [e5]; rfl) rfl rfl hd (kk ls hL)
  · exact W.alen (n := nI n) hx hb (h1.arr (aTy_arr hty) h2) ((hKK.2.1 t ty hty).1 _ _) (by rw [arrV_size]; rfl) rfl rfl hd (kk ls hL)
theorem tr_iaload {d i pc : Nat} {L : List (Option mL)} {S : List mV} {M : Mm} {a t n : Nat} {j : Int32} (hd : decode (mB i) pc = .ok (.iaload, 1)) (ht : t = 40 ∨ t = 41) (ha : M.sh a = some (t, n)) (hj : inB j n) : Tr d i pc L (.inl j :: .inr (.inr (some a)) :: S) M (pc + 1) L (.inl (M.it a j.toNatClampNeg) :: S) M := by
  refine Tr.pure ?_
  intro D dA lo p l e R s m args below meth c Qf H ls locs cells slots C hL hR hS hcc hss kk
  obtain ⟨hx, hb, -, hown, hts, -, -, hKK, -⟩ := id C
  obtain ⟨h1, -⟩ := hR.2 a t n ha
  rcases ht with rfl | rfl
  · unfold RAt at h1
    rw [if_neg (by omega), if_pos rfl] at h1
    obtain ⟨scr, e1, e2, e3, e4, e5, e6⟩ := h1
    exact W.iald (v := .int (M.it a j.toNatClampNeg)) hx hb e1 (scr_arr (hKK.2.1 40 .int rfl).1 e2 e3) e4 (by rw [e5]; exact inB_vp hj) (e6 _ (inB_lt hj)) rfl rfl hd (kk ls hL)
  · exact W.iald (v := .int (M.it a j.toNatClampNeg)) hx hb (h1.arr (by omega) (by omega)) ((hKK.2.1 41 .int rfl).1 _ _) (fun q => by cases q) (by rw [arrV_size]; exact inB_vp hj) (by rw [arrV_read _ _ (inB_lt hj)]; rfl) rfl rfl hd (kk ls hL)
theorem tr_baload {d i pc : Nat} {L : List (Option mL)} {S : List mV} {M : Mm} {a t n : Nat} {j : Int32} (hd : decode (mB i) pc = .ok (.baload, 1)) (ht : t = 42 ∨ t = 44) (ha : M.sh a = some (t, n)) (hj : inB j n) : Tr d i pc L (.inl j :: .inr (.inr (some a)) :: S) M (pc + 1) L (.inl (M.it a j.toNatClampNeg) :: S) M := by
  refine Tr.pure ?_
  intro D dA lo p l e R s m args below meth c Qf H ls locs cells slots C hL hR hS hcc hss kk
  obtain ⟨hx, hb, -, hown, hts, -, -, hKK, -⟩ := id C
  obtain ⟨h1, -⟩ := hR.2 a t n ha
  rcases ht with rfl | rfl
  · exact W.zald (v := .int (M.it a j.toNatClampNeg)) hx hb (h1.arr (by omega) (by omega)) ((hKK.2.1 42 .boolean rfl).1 _ _) (fun q => by cases q) (by rw [arrV_size]; exact inB_vp hj) (by rw [arrV_read _ _ (inB_lt hj)]; rfl) rfl rfl hd (kk ls hL)
  · exact W.bald (v := .int (M.it a j.toNatClampNeg)) hx hb (h1.arr (by omega) (by omega)) ((hKK.2.1 44 .byte rfl).1 _ _) (fun q => by cases q) (by rw [arrV_size]; exact inB_vp hj) (by rw [arrV_read _ _ (inB_lt hj)]; rfl) rfl rfl hd (kk ls hL)
theorem aTy_ref {t : Nat} {ty : FieldType} (h : aTy t = some ty) (ht : 50 ≤ t) : ∃ q : vw_C, classes[t - 50]? = some q ∧ ty = .object q.1 := by
  unfold aTy at h
  rw [if_neg (by omega), if_neg (by omega), if_neg (by omega)] at h
  split at h
  case isFalse => cases h
  cases hc : classes[t - 50]? with
  | none => rw [hc] at h; cases h
  | some q => rw [hc] at h; exact ⟨q, rfl, (Option.some.inj h).symm⟩
theorem eTy_ref {t : Nat} (ht : 50 ≤ t) : eTy t = 3 := by
  unfold eTy
  rw [if_neg (by omega), if_neg (by omega), if_neg (by omega)]
theorem tr_aaload {d i pc : Nat} {L : List (Option mL)} {S : List mV} {M : Mm} {a t n : Nat} {ty : FieldType} {j : Int32} (hd : decode (mB i) pc = .ok (.aaload, 1)) (hty : aTy t = some ty) (ht : 50 ≤ t) (ha : M.sh a = some (t, n)) (hj : inB j n) : Tr d i pc L (.inl j :: .inr (.inr (some a)) :: S) M (pc + 1) L (.inr (.inr (M.rf a j.toNatClampNeg)) :: S) M := by
  refine Tr.pure ?_
  intro D dA lo p l e R s m args below meth c Qf H ls locs cells slots C hL hR hS hcc hss kk
  obtain ⟨hx, hb, -, hown, hts, -, -, hKK, -⟩ := id C
  obtain ⟨h1, -⟩ := hR.2 a t n ha
  obtain ⟨q, hq, rfl⟩ := aTy_ref hty ht
  have h3 := h1.arr (by omega) (by omega)
  rw [eTy_ref ht] at h3
  exact W.aald (v := va_rf (M.rf a j.toNatClampNeg)) (ty := .object q.1) hx hb h3 ((hKK.2.1 t _ hty).1 _ _) rfl (fun q => by cases q) (by rw [arrV_size]; exact inB_vp hj) (by rw [arrV_read _ _ (inB_lt hj)]; rfl) rfl rfl hd (kk ls hL)
theorem tr_iastore {d i pc : Nat} {L : List (Option mL)} {S : List mV} {M : Mm} {a n : Nat} {j x : Int32} (hd : decode (mB i) pc = .ok (.iastore, 1)) (ha : M.sh a = some (41, n)) (hj : inB j n) : Tr d i pc L (.inl x :: .inl j :: .inr (.inr (some a)) :: S) M (pc + 1) L S (M.si a j.toNatClampNeg x) := by
  refine Tr.memo rfl rfl ?_
  intro D dA lo p l e R s m args below meth c Qf H ls locs cells slots C hL hR hS hcc hss kk
  obtain ⟨hx, hb, -, hown, hts, -, -, hKK, -⟩ := id C
  obtain ⟨h1, hal⟩ := hR.2 a 41 n ha
  have h3 := h1.arr (by omega) (by omega)
  refine W.iast hx hb h3 ((hKK.2.1 41 .int rfl).1 _ _) (fun q => by cases q) (by rw [arrV_size]; exact inB_vp hj) rfl rfl hd fun H' e1 e2 e3 => ?_
  refine kk H' _ (hR.put rfl rfl m_rd_si e2 e3 fun t' n' h' => ?_) (hS.put e2 e3 (hal (by omega)))
  rw [ha] at h'
  cases h'
  exact RAt.putA (by omega) (by omega) e1 m_rd_si (by show Value.int ((M.si a j.toNatClampNeg x).it a j.toNatClampNeg) = _; rw [si_it, if_pos ⟨rfl, rfl⟩])
theorem tr_bastore {d i pc : Nat} {L : List (Option mL)} {S : List mV} {M : Mm} {a t n : Nat} {j x : Int32} (hd : decode (mB i) pc = .ok (.bastore, 1)) (ht : t = 42 ∨ t = 44) (ha : M.sh a = some (t, n)) (hj : inB j n) : Tr d i pc L (.inl x :: .inl j :: .inr (.inr (some a)) :: S) M (pc + 1) L S (M.si a j.toNatClampNeg (bnar t x)) := by
  refine Tr.memo rfl rfl ?_
  intro D dA lo p l e R s m args below meth c Qf H ls locs cells slots C hL hR hS hcc hss kk
  obtain ⟨hx, hb, -, hown, hts, -, -, hKK, -⟩ := id C
  obtain ⟨h1, hal⟩ := hR.2 a t n ha
  rcases ht with rfl | rfl
  · have h3 := h1.arr (by omega) (by omega)
    refine W.zast hx hb h3 ((hKK.2.1 42 .boolean rfl).1 _ _) (fun q => by cases q) (by rw [arrV_size]; exact inB_vp hj) rfl rfl hd fun H' e1 e2 e3 => ?_
    refine kk H' _ (hR.put rfl rfl m_rd_si e2 e3 fun t' n' h' => ?_) (hS.put e2 e3 (hal (by omega)))
    rw [ha] at h'
    cases h'
    exact RAt.putA (by omega) (by omega) e1 m_rd_si (by show Value.int ((M.si a j.toNatClampNeg _).it a j.toNatClampNeg) = _; rw [si_it, if_pos ⟨rfl, rfl⟩]; rfl)
  · have h3 := h1.arr (by omega) (by omega)
    refine W.bast hx hb h3 ((hKK.2.1 44 .byte rfl).1 _ _) (fun q => by cases q) (by rw [arrV_size]; exact inB_vp hj) rfl rfl hd fun H' e1 e2 e3 => ?_
    refine kk H' _ (hR.put rfl rfl m_rd_si e2 e3 fun t' n' h' => ?_) (hS.put e2 e3 (hal (by omega)))
    rw [ha] at h'
    cases h'
    exact RAt.putA (by omega) (by omega) e1 m_rd_si (by show Value.int ((M.si a j.toNatClampNeg _).it a j.toNatClampNeg) = _; rw [si_it, if_pos ⟨rfl, rfl⟩]; rfl)
theorem tr_aastore {d i pc : Nat} {L : List (Option mL)} {S : List mV} {M : Mm} {a t n : Nat} {ty : FieldType} {j : Int32} {x : Option Nat} (hd : decode (mB i) pc = .ok (.aastore, 1)) (hty : aTy t = some ty) (ht : 50 ≤ t) (ht2 : t < 90) (ha : M.sh a = some (t, n)) (hj : inB j n) (hxs : ∀ b : Nat, x = some b → M.sh b = some (t - 50, 0)) : Tr d i pc L (.inr (.inr x) :: .inl j :: .inr (.inr (some a)) :: S) M (pc + 1) L S (M.sr a j.toNatClampNeg x) := by
  refine Tr.memo rfl rfl ?_
  intro D dA lo p l e R s m args below meth c Qf H ls locs cells slots C hL hR hS hcc hss kk
  obtain ⟨hx, hb, -, hown, hts, -, -, hKK, -⟩ := id C
  obtain ⟨h1, hal⟩ := hR.2 a t n ha
  obtain ⟨q, hq, rfl⟩ := aTy_ref hty ht
  have h3 := h1.arr (by omega) (by omega)
  have hE := eTy_ref ht
  have fin : ∀ H' : Heap, H'[a]? = some ((arrV (dA t) n (fun j => m_val (m_rd M (eTy t) a j))).setSlot j.toNatClampNeg (va_rf x)) → H'.size = H.size → (∀ q, q ≠ a → H'[q]? = H[q]?) → W p l e R s m args below meth c H' (locs ++ [⟨a, j.toNatClampNeg⟩]) cells slots Qf (F0 m (pc + 1) ls (S.map m_val)) := by
    intro H' e1 e2 e3
    refine kk H' _ (hR.put rfl rfl m_rd_sr e2 e3 fun t' n' h' => ?_) (hS.put e2 e3 (hal (by omega)))
    rw [ha] at h'
    cases h'
    exact RAt.putA (by omega) (by omega) e1 m_rd_sr (by rw [hE]; show va_rf ((M.sr a j.toNatClampNeg x).rf a j.toNatClampNeg) = _; rw [sr_rf, if_pos ⟨rfl, rfl⟩])
  cases x with
  | none => exact va_WaastN (C := q.1) hx hb h3 ((hKK.2.1 t _ hty).1 _ _) (fun h => by cases h) (by rw [arrV_size]; exact inB_vp hj) rfl rfl hd fin
  | some b =>
    have hbs := hxs b rfl
    obtain ⟨g1, -⟩ := hR.2 b _ _ hbs
    unfold RAt at g1
    rw [if_pos (by omega)] at g1
    obtain ⟨r, hr, cellV, v1, v2, v3, -⟩ := g1
    have hcls := (hKK.1.1 _ q hq).2
    obtain ⟨kA, comp, k1, k2, k3, -⟩ := (hKK.2.1 t _ hty).2 (by omega)
    have hcomp : comp = D.1 (t - 50) := Option.some.inj (k3.symm.trans hcls.1)
    subst hcomp
    obtain ⟨kC, hkC, -⟩ := hcls.2
    exact W.aast hx hb h3 (fun q h => by cases h) (fun h => by cases h) k1 k2 rfl hkC ⟨fun z => inB_vp hj (Or.inl z), by rw [arrV_size]; exact inB_lt hj⟩ v1 (fun q h => by rw [v3] at h; cases h) (by rw [v2]; exact hkC) (by rw [v2]; exact va_assign hcls) rfl rfl hd fin
