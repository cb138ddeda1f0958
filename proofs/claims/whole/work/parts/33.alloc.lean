/-! STEPS THAT MAKE CELLS; switches -/
def nLk (own : String) (idx t n : Nat) : Prop := ∃ (C : String) (T : u_T) (N : Nat), classes[t]? = some (C, T, N) ∧ t < 40 ∧ Cond.classLink own idx C ∈ gw ∧ Cond.instantiable C n ∈ gw ∧ Cond.initialized C ∈ gw
theorem va_S.more {A : Nat → Prop} {H0 H H1 : Heap} {locs : List Loc} {h : Nat} (hS : va_S A H0 H locs) (hh : H.size = h) (z : H1.size = h + 1) (o : ∀ q, q < h → H1[q]? = H[q]?) : va_S A H0 H1 locs :=
  ⟨Nat.le_trans hS.1 (by omega), fun x h1 h2 => (o x (by have := hS.1; omega)).trans (hS.2.1 x h1 h2), hS.2.2⟩
theorem tr_new {d i pc : Nat} {L : List (Option mL)} {S : List mV} {M : Mm} {idx t n : Nat} (hd : decode (mB i) pc = .ok (.new idx, 3)) (hf : nLk (mOw i) idx t n) : Tr d i pc L S M (pc + 3) L (.inr (.inr (some M.sz)) :: S) (M.nw (t, 0) n) := by
  obtain ⟨C0, T, N, hcl, ht, w1, w2, w3⟩ := hf
  have e1 : (M.nw (t, 0) n).sz - M.sz = 1 := by rw [nw_sz]; omega
  have e2 : (M.nw (t, 0) n).sl - M.sl = n := by rw [nw_sl]; omega
  refine ⟨by rw [nw_sz]; omega, by rw [nw_sl]; omega, ?_⟩
  intro D dA lo p l e R s m args below meth c Qf H ls locs cells slots C hL hR hS hc hs kk
  rw [e1] at hc kk
  rw [e2] at hs kk
  obtain ⟨hx, hb, -, hown, hts, -, -, hKK, hlo, -⟩ := id C
  have hKn := hKK.1.1 t _ hcl
  refine W.newcK hx hb hown (hts _ w1) (hts _ w2) (hts _ w3) rfl hd hc hs hKn.2.1 hR.1 fun H1 kC hkC g1 z1 o1 => ?_
  refine kk H1 ls locs hL (hR.push (fun b => rfl) rfl (fun ty b j hb => m_rd_nw ty b j hb) (by rw [z1, hR.1]) (fun q hq => o1 q (by rw [← hR.1]; exact hq)) (Nat.le_trans hlo hS.1) ?_) (hS.more hR.1 z1 o1)
  unfold RAt
  rw [if_pos ht]
  exact ⟨_, hcl, (u_born (tyOf t) hts (cls_in t C0 T N hcl) hKn hkC g1 (cls_ty t C0 T N hcl)).to (fun k hk => (m_rd_nw0 (tyOf t k) (Nat.le_succ_of_le (cls_le t C0 T N hcl k hk)) k).symm)⟩
theorem eTy_of {t : Nat} {ty : FieldType} (h : aTy t = some ty) (h40 : t ≠ 40) : eTy t = tyC ty := by
  unfold aTy at h
  unfold eTy
  by_cases h1 : t = 41
  · rw [if_pos (Or.inr h1)] at h
    cases h
    rw [if_pos h1]
    rfl
  · rw [if_neg (by omega)] at h
    rw [if_neg h1]
    by_cases h2 : t = 42
    · rw [if_pos h2] at h ⊢
      cases h
      rfl
    · rw [if_neg h2] at h ⊢
      by_cases h3 : t = 44
      · rw [if_pos h3] at h ⊢
        cases h
        rfl
      · rw [if_neg h3] at h ⊢
        by_cases h4 : rTyB t = true
        · rw [if_pos h4] at h
          cases hc : classes[t - 50]? with
          | none => rw [hc] at h; cases h
          | some q => rw [hc] at h; cases h; rfl
        · rw [if_neg h4] at h
          cases h
theorem eTy_le {t : Nat} : eTy t ≤ 4 := by
  unfold eTy
  split
  · omega
  · split
    · omega
    · split <;> omega
theorem n_clamp {n : Int32} (h0 : 0 ≤ n.toInt) : ¬ n < 0 := fun q => by
  have := Int32.lt_iff_toInt_lt.mp q
  simp at this
  omega
theorem n_clampN {n : Int32} (h0 : 0 ≤ n.toInt) (h1 : n.toInt ≤ 100000) : n.toNatClampNeg ≤ 100000 := by
  show n.toInt.toNat ≤ 100000
  omega
theorem tr_newarray {d i pc : Nat} {L : List (Option mL)} {S : List mV} {M : Mm} {at_ : Jvm.ClassFile.ArrayType} {t : Nat} {n : Int32} (hd : decode (mB i) pc = .ok (.newarray at_, 2)) (ht : t = 41 ∧ at_ = .int ∨ t = 42 ∧ at_ = .boolean ∨ t = 44 ∧ at_ = .byte) (hw : Cond.arrayClass (newarray.typeOf at_) ∈ gw) (h0 : 0 ≤ n.toInt) (h1 : n.toInt ≤ 100000) : Tr d i pc L (.inl n :: S) M (pc + 2) L (.inr (.inr (some M.sz)) :: S) (M.nw (t, n.toNatClampNeg) n.toNatClampNeg) := by
  have e1 : (M.nw (t, n.toNatClampNeg) n.toNatClampNeg).sz - M.sz = 1 := by rw [nw_sz]; omega
  have e2 : (M.nw (t, n.toNatClampNeg) n.toNatClampNeg).sl - M.sl = n.toNatClampNeg := by rw [nw_sl]; omega
  refine ⟨by rw [nw_sz]; omega, by rw [nw_sl]; omega, ?_⟩
  intro D dA lo p l e R s m args below meth c Qf H ls locs cells slots C hL hR hS hc hs kk
  rw [e1] at hc kk
  rw [e2] at hs kk
  obtain ⟨hx, hb, -, hown, hts, -, -, hKK, hlo, -⟩ := id C
  have hN := n_clampN h0 h1
  have hA : aTy t = some (newarray.typeOf at_) := by rcases ht with ⟨rfl, rfl⟩ | ⟨rfl, rfl⟩ | ⟨rfl, rfl⟩ <;> rfl
  have h40 : ¬ t = 40 := by rcases ht with ⟨rfl, -⟩ | ⟨rfl, -⟩ | ⟨rfl, -⟩ <;> omega
  have hb8 : componentBytes (newarray.typeOf at_) ≤ 8 := by rcases ht with ⟨-, rfl⟩ | ⟨-, rfl⟩ | ⟨-, rfl⟩ <;> decide
  refine va_newaK hx hb (hts _ hw) rfl hd rfl (n_clamp h0) rfl (Nat.le_trans (Nat.mul_le_mul hN hb8) (by decide)) hc hs hR.1 fun H1 cA g1 z1 o1 _ hNm => ?_
  have hcA : cA = dA t := by
    have h5 := (hKK.2.1 t _ hA).2 h40
    rcases ht with ⟨rfl, rfl⟩ | ⟨rfl, rfl⟩ | ⟨rfl, rfl⟩ <;> exact Option.some.inj (hNm.symm.trans h5)
  subst hcA
  refine kk H1 ls locs hL (hR.push (fun b => rfl) rfl (fun ty b j hb => m_rd_nw ty b j hb) (by rw [z1, hR.1]) (fun q hq => o1 q (by rw [← hR.1]; exact hq)) (Nat.le_trans hlo hS.1) ?_) (hS.more hR.1 z1 o1)
  unfold RAt
  rw [if_neg (aTy_arr hA), if_neg h40, g1]
  congr 2
  funext j
  rw [eTy_of hA h40, m_rd_nw0 _ (by rw [← eTy_of hA h40]; exact eTy_le)]
theorem tr_anewarray {d i pc : Nat} {L : List (Option mL)} {S : List mV} {M : Mm} {idx t : Nat} {q : vw_C} {n : Int32} (hd : decode (mB i) pc = .ok (.anewarray idx, 3)) (ht : 50 ≤ t) (htB : rTyB t = true) (hq : classes[t - 50]? = some q) (w1 : Cond.classLink (mOw i) idx q.1 ∈ gw) (h0 : 0 ≤ n.toInt) (h1 : n.toInt ≤ 100000) : Tr d i pc L (.inl n :: S) M (pc + 3) L (.inr (.inr (some M.sz)) :: S) (M.nw (t, n.toNatClampNeg) n.toNatClampNeg) := by
  have e1 : (M.nw (t, n.toNatClampNeg) n.toNatClampNeg).sz - M.sz = 1 := by rw [nw_sz]; omega
  have e2 : (M.nw (t, n.toNatClampNeg) n.toNatClampNeg).sl - M.sl = n.toNatClampNeg := by rw [nw_sl]; omega
  refine ⟨by rw [nw_sz]; omega, by rw [nw_sl]; omega, ?_⟩
  intro D dA lo p l e R s m args below meth c Qf H ls locs cells slots C hL hR hS hc hs kk
  rw [e1] at hc kk
  rw [e2] at hs kk
  obtain ⟨hx, hb, -, hown, hts, -, -, hKK, hlo, -⟩ := id C
  have hN := n_clampN h0 h1
  have hA : aTy t = some (.object q.1) := by
    unfold aTy
    rw [if_neg (by omega), if_neg (by omega), if_neg (by omega), if_pos htB, hq]
    rfl
  refine W.anew hx hb hown (hts _ w1) (va_AO.use (hKK.2.2.2.2.1 t q htB hq)) rfl hd rfl (n_clamp h0) (Nat.le_trans (Nat.mul_le_mul hN (Nat.le_refl 4)) (by decide)) hc hs fun cA kA comp f1 f2 f3 f4 => ?_
  have hcA : cA = dA t := by
    obtain ⟨kA', comp', -, -, -, h5⟩ := (hKK.2.1 t _ hA).2 (by omega)
    exact Option.some.inj (f1.symm.trans h5)
  subst hcA
  generalize hH1 : H.push ({ cls := dA t, slots := Array.replicate n.toNatClampNeg .null, vm := .none } : Cell) = H1
  have z1 : H1.size = H.size + 1 := by rw [← hH1, Array.size_push]
  have g1 : H1[H.size]? = some (arrV (dA t) n.toNatClampNeg (fun _ => .null)) := by rw [← hH1, Array.getElem?_push_size, ← arrV_new]
  have o1 : ∀ q : Nat, q < H.size → H1[q]? = H[q]? := fun q hq => by rw [← hH1, Array.getElem?_push, if_neg (Nat.ne_of_lt hq)]
  have := kk H1 ls locs hL (hR.push (fun b => rfl) rfl (fun ty b j hb => m_rd_nw ty b j hb) z1 o1 (Nat.le_trans hlo hS.1) (by
    unfold RAt
    rw [if_neg (by omega), if_neg (by omega), ← hR.1, g1]
    congr 2
    funext j
    rw [eTy_of hA (by omega), hR.1, m_rd_nw0 (.object q.1) (show (3 : Nat) ≤ 4 by omega)]
    rfl)) (hS.more rfl z1 o1)
  rw [hR.1]
  exact this
