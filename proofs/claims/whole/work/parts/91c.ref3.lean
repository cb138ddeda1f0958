/-! the reference: the cache, what is left, records -/
theorem e131 {d : Nat} {M : Mm} {k : mQ} {r b md : Nat} {ws : List Wm} {dk : Nat → Nat → Nat} (h : RD2 M r dk ws md) (hb : b < 128) (hk : k (some (.inl (nI (lnS (vw dk ws) b)))) M) : XC (d + 3) 131 [.inr (some r), .inl (nI b)] M k := by
  refine xc ?_
  show X (d + 2) 131 0 [some (.inr (some r)), some (.inl (nI b))] [] M k
  have n3 : (3 : Int32) = nI 3 := rfl
  refine vc_X 20 _ _ _ _ _ _ _ ?_
  simp only [↓v131_0, ↓v131_1, ↓v131_2, ↓v131_3, ↓v131_6, ↓qI_c, ↓qL_c, ↓qR_c, ↓pA_o, ↓qC_i, ↓qC_r, ↓oA_s, ↓gI_0, ↓gI_1, ↓gI_2, ↓gI_3, ↓gI_4, ↓gI_5, ↓gI_6, ↓gI_7, ↓gI_8, ↓gI_9, ↓gI_10, ↓gR_0, ↓gR_1, ↓gR_2, ↓gR_3, ↓gR_4, ↓gR_5, ↓gR_6, ↓gR_7, ↓gR_8, ↓gR_9, ↓gR_10, ↓sL_0, ↓sL_1, ↓sL_2, ↓sL_3, ↓sL_4, ↓sL_5, ↓sL_6, ↓sL_7, ↓sL_8, ↓sL_9, ↓sL_10, ↓rrf_si, ↓rrf_sg, ↓shO_si, ↓shO_sg, ↓shO_sr, ↓shA_si, ↓shA_sg, ↓shA_sr, ↓pAs_0, ↓pAs_i, ↓pAs_r, stk_n, stk_i, stk_l, stk_r, List.nil_append, List.cons_append, true_and, and_true, true_or, or_true, Nat.zero_add, dp_s, Nat.reduceAdd, le8_0, le8_1, le8_2, le8_3, le8_4, le8_5, le8_6, le8_7, le8_8, Classical.not_not, aT40, aT41, aT42, aT44, aT54, aT58, aT59, rT54, rT58, rT59, reduceIte, Nat.reduceEqDiff, qn_42, qn_44, true_implies, not_true_eq_false, not_false_eq_true, false_implies, ↓shO_of h.1.1.1]
  rw [n3]
  refine e132 h hb (by omega) ⟨_, rfl, ?_⟩
  refine vc_X 20 _ _ _ _ _ _ _ ?_
  simp only [↓v131_0, ↓v131_1, ↓v131_2, ↓v131_3, ↓v131_6, ↓qI_c, ↓qL_c, ↓qR_c, ↓pA_o, ↓qC_i, ↓qC_r, ↓oA_s, ↓gI_0, ↓gI_1, ↓gI_2, ↓gI_3, ↓gI_4, ↓gI_5, ↓gI_6, ↓gI_7, ↓gI_8, ↓gI_9, ↓gI_10, ↓gR_0, ↓gR_1, ↓gR_2, ↓gR_3, ↓gR_4, ↓gR_5, ↓gR_6, ↓gR_7, ↓gR_8, ↓gR_9, ↓gR_10, ↓sL_0, ↓sL_1, ↓sL_2, ↓sL_3, ↓sL_4, ↓sL_5, ↓sL_6, ↓sL_7, ↓sL_8, ↓sL_9, ↓sL_10, ↓rrf_si, ↓rrf_sg, ↓shO_si, ↓shO_sg, ↓shO_sr, ↓shA_si, ↓shA_sg, ↓shA_sr, ↓pAs_0, ↓pAs_i, ↓pAs_r, stk_n, stk_i, stk_l, stk_r, List.nil_append, List.cons_append, true_and, and_true, true_or, or_true, Nat.zero_add, dp_s, Nat.reduceAdd, le8_0, le8_1, le8_2, le8_3, le8_4, le8_5, le8_6, le8_7, le8_8, Classical.not_not, aT40, aT41, aT42, aT44, aT54, aT58, aT59, rT54, rT58, rT59, reduceIte, Nat.reduceEqDiff, qn_42, qn_44, true_implies, not_true_eq_false, not_false_eq_true, false_implies]
  exact hk
theorem e134 {d : Nat} {M : Mm} {k : mQ} {r b i md : Nat} {ws : List Wm} {dk : Nat → Nat → Nat} (h : RD2 M r dk ws md) (hi : i < 1000) (hb : b + (i + 6) / 16 < 128) (hk : k (some (.inl (nI (vw dk ws (b + (i + 6) / 16) ((i + 6) % 16))))) M) : XC (d + 3) 134 [.inr (some r), .inl (nI b), .inl (nI i)] M k := by
  refine xc ?_
  show X (d + 2) 134 0 [some (.inr (some r)), some (.inl (nI b)), some (.inl (nI i))] [] M k
  have e0 : nI i + 6 = nI (i + 6) := by rw [n_6, nI_add]
  have e1 : nI (i + 6) / 16 = nI ((i + 6) / 16) := by rw [n_16, pk_div (by omega) (by omega) (by omega)]
  have e2 : nI b + nI ((i + 6) / 16) = nI (b + (i + 6) / 16) := nI_add _ _
  have e3 : nI (i + 6) - nI ((i + 6) / 16) * 16 = nI ((i + 6) % 16) := by
    have := pk_rem (a := i + 6) (d := 16) (by omega) (by omega) (by omega)
    rw [pk_div (by omega) (by omega) (by omega)] at this
    exact this
  refine vc_X 20 _ _ _ _ _ _ _ ?_
  simp only [↓v134_0, ↓v134_1, ↓v134_2, ↓v134_3, ↓v134_5, ↓v134_6, ↓v134_8, ↓v134_9, ↓v134_10, ↓v134_11, ↓v134_13, ↓v134_14, ↓v134_16, ↓v134_17, ↓v134_20, ↓qI_c, ↓qL_c, ↓qR_c, ↓pA_o, ↓qC_i, ↓qC_r, ↓oA_s, ↓gI_0, ↓gI_1, ↓gI_2, ↓gI_3, ↓gI_4, ↓gI_5, ↓gI_6, ↓gI_7, ↓gI_8, ↓gI_9, ↓gI_10, ↓gR_0, ↓gR_1, ↓gR_2, ↓gR_3, ↓gR_4, ↓gR_5, ↓gR_6, ↓gR_7, ↓gR_8, ↓gR_9, ↓gR_10, ↓sL_0, ↓sL_1, ↓sL_2, ↓sL_3, ↓sL_4, ↓sL_5, ↓sL_6, ↓sL_7, ↓sL_8, ↓sL_9, ↓sL_10, ↓rrf_si, ↓rrf_sg, ↓shO_si, ↓shO_sg, ↓shO_sr, ↓shA_si, ↓shA_sg, ↓shA_sr, ↓pAs_0, ↓pAs_i, ↓pAs_r, stk_n, stk_i, stk_l, stk_r, List.nil_append, List.cons_append, true_and, and_true, true_or, or_true, Nat.zero_add, dp_s, Nat.reduceAdd, le8_0, le8_1, le8_2, le8_3, le8_4, le8_5, le8_6, le8_7, le8_8, Classical.not_not, aT40, aT41, aT42, aT44, aT54, aT58, aT59, rT54, rT58, rT59, reduceIte, Nat.reduceEqDiff, qn_42, qn_44, true_implies, not_true_eq_false, not_false_eq_true, false_implies, ↓shO_of h.1.1.1, e0, e1, e2, e3]
  refine ⟨by decide, by decide, e132 h hb (by omega) ⟨_, rfl, ?_⟩⟩
  refine vc_X 20 _ _ _ _ _ _ _ ?_
  simp only [↓v134_0, ↓v134_1, ↓v134_2, ↓v134_3, ↓v134_5, ↓v134_6, ↓v134_8, ↓v134_9, ↓v134_10, ↓v134_11, ↓v134_13, ↓v134_14, ↓v134_16, ↓v134_17, ↓v134_20, ↓qI_c, ↓qL_c, ↓qR_c, ↓pA_o, ↓qC_i, ↓qC_r, ↓oA_s, ↓gI_0, ↓gI_1, ↓gI_2, ↓gI_3, ↓gI_4, ↓gI_5, ↓gI_6, ↓gI_7, ↓gI_8, ↓gI_9, ↓gI_10, ↓gR_0, ↓gR_1, ↓gR_2, ↓gR_3, ↓gR_4, ↓gR_5, ↓gR_6, ↓gR_7, ↓gR_8, ↓gR_9, ↓gR_10, ↓sL_0, ↓sL_1, ↓sL_2, ↓sL_3, ↓sL_4, ↓sL_5, ↓sL_6, ↓sL_7, ↓sL_8, ↓sL_9, ↓sL_10, ↓rrf_si, ↓rrf_sg, ↓shO_si, ↓shO_sg, ↓shO_sr, ↓shA_si, ↓shA_sg, ↓shA_sr, ↓pAs_0, ↓pAs_i, ↓pAs_r, stk_n, stk_i, stk_l, stk_r, List.nil_append, List.cons_append, true_and, and_true, true_or, or_true, Nat.zero_add, dp_s, Nat.reduceAdd, le8_0, le8_1, le8_2, le8_3, le8_4, le8_5, le8_6, le8_7, le8_8, Classical.not_not, aT40, aT41, aT42, aT44, aT54, aT58, aT59, rT54, rT58, rT59, reduceIte, Nat.reduceEqDiff, qn_42, qn_44, true_implies, not_true_eq_false, not_false_eq_true, false_implies]
  exact hk
/-- the cache of the reference -/
def RCa (M : Mm) (r : Nat) (C : List Nat × Nat) : Prop := M.it r 27 = nI C.1.length ∧ C.1.length ≤ 6 ∧ (∀ j v, C.1[j]? = some v → M.it (r + 17) j = nI v ∧ v < 1000) ∧ M.it r 28 = nI C.2
/-- fields of r other than those told, and rows other than those told, stay -/
def Rf (r : Nat) (P : Nat → Prop) (Fs : List Nat) (M M' : Mm) : Prop := Oi (fun y => y = r ∨ P y) M M' ∧ ∀ j, j ∉ Fs → M'.it r j = M.it r j
theorem Rf.rf_ {r : Nat} {P : Nat → Prop} {Fs : List Nat} {M : Mm} : Rf r P Fs M M := ⟨Oi.rf_, fun _ _ => rfl⟩
theorem Rf.trans {r : Nat} {P Q : Nat → Prop} {Fs Gs : List Nat} {M M' M2 : Mm} (h : Rf r P Fs M M') (g : Rf r Q Gs M' M2) (hQ : ∀ x, Q x → P x) (hG : ∀ x ∈ Gs, x ∈ Fs) : Rf r P Fs M M2 := ⟨h.1.trans g.1 (fun x hx => hx.elim Or.inl (fun q => Or.inr (hQ x q))), fun j hj => (g.2 j (fun q => hj (hG j q))).trans (h.2 j hj)⟩
theorem Rf.mono {r : Nat} {P Q : Nat → Prop} {Fs Gs : List Nat} {M M' : Mm} (g : Rf r Q Gs M M') (hQ : ∀ x, Q x → P x) (hG : ∀ x ∈ Gs, x ∈ Fs) : Rf r P Fs M M' := Rf.rf_.trans g hQ hG
theorem Rf.fld {r f : Nat} {P : Nat → Prop} {Fs : List Nat} {M M' : Mm} {x : Int32} (h : Rf r P Fs M M') (hf : f ∈ Fs) : Rf r P Fs M (M'.si r f x) := ⟨h.1.i (Or.inl rfl), fun j hj => by rw [si_it, if_neg (fun q => hj (by rw [q.2]; exact hf))]; exact h.2 j hj⟩
theorem Rf.row {r a j0 : Nat} {P : Nat → Prop} {Fs : List Nat} {M M' : Mm} {x : Int32} (h : Rf r P Fs M M') (ha : P a) (hne : a ≠ r) : Rf r P Fs M (M'.si a j0 x) := ⟨h.1.i (Or.inr ha), fun j hj => by rw [si_it, if_neg (fun q => hne q.1.symm)]; exact h.2 j hj⟩
theorem Rf.at_ {r x : Nat} {P : Nat → Prop} {Fs : List Nat} {M M' : Mm} (h : Rf r P Fs M M') (hx : x ≠ r) (hP : ¬ P x) (j : Nat) : M'.it x j = M.it x j := h.1.at_ (fun q => q.elim hx hP) j
theorem e136 {d : Nat} {M : Mm} {k : mQ} {r b md : Nat} {ws : List Wm} {dk : Nat → Nat → Nat} {C : List Nat × Nat} (h : RD2 M r dk ws md) (hc : RCa M r C) (hb : b < 1000) (hC : C.2 < 100000000) (hk : ∀ M', RCa M' r (usM ws C b) → Rf r (· = r + 17) [27, 28] M M' → k none M') : XC (d + 2) 136 [.inr (some r), .inl (nI b)] M k := by
  obtain ⟨hs, hw, hl, hl2, hd, hN, hB⟩ := h
  refine xc ?_
  show X (d + 1) 136 0 [some (.inr (some r)), some (.inl (nI b)), none] [] M k
  refine vc_X 20 _ _ _ _ _ _ _ ?_
  simp only [↓v136_0, ↓v136_1, ↓v136_2, ↓v136_5, ↓v136_6, ↓v136_9, ↓v136_10, ↓v136_11, ↓v136_12, ↓v136_13, ↓v136_14, ↓v136_17, ↓v136_20, ↓v136_21, ↓v136_24, ↓v136_25, ↓v136_26, ↓v136_27, ↓v136_30, ↓v136_33, ↓v136_36, ↓v136_37, ↓v136_38, ↓v136_41, ↓v136_44, ↓v136_45, ↓v136_46, ↓v136_49, ↓v136_50, ↓v136_51, ↓v136_54, ↓v136_55, ↓v136_58, ↓v136_60, ↓v136_63, ↓v136_64, ↓v136_65, ↓v136_68, ↓v136_69, ↓v136_70, ↓v136_73, ↓v136_76, ↓v136_77, ↓v136_78, ↓v136_79, ↓v136_82, ↓v136_83, ↓v136_86, ↓v136_87, ↓v136_88, ↓v136_91, ↓v136_92, ↓v136_93, ↓v136_94, ↓v136_95, ↓v136_96, ↓v136_99, ↓v136_102, ↓v136_103, ↓v136_106, ↓v136_107, ↓v136_108, ↓v136_109, ↓qI_c, ↓qL_c, ↓qR_c, ↓pA_o, ↓qC_i, ↓qC_r, ↓oA_s, ↓gI_0, ↓gI_1, ↓gI_2, ↓gI_3, ↓gI_4, ↓gI_5, ↓gI_6, ↓gI_7, ↓gI_8, ↓gI_9, ↓gI_10, ↓gR_0, ↓gR_1, ↓gR_2, ↓gR_3, ↓gR_4, ↓gR_5, ↓gR_6, ↓gR_7, ↓gR_8, ↓gR_9, ↓gR_10, ↓sL_0, ↓sL_1, ↓sL_2, ↓sL_3, ↓sL_4, ↓sL_5, ↓sL_6, ↓sL_7, ↓sL_8, ↓sL_9, ↓sL_10, ↓rrf_si, ↓rrf_sg, ↓shO_si, ↓shO_sg, ↓shO_sr, ↓shA_si, ↓shA_sg, ↓shA_sr, ↓pAs_0, ↓pAs_i, ↓pAs_r, stk_n, stk_i, stk_l, stk_r, List.nil_append, List.cons_append, true_and, and_true, true_or, or_true, Nat.zero_add, dp_s, Nat.reduceAdd, le8_0, le8_1, le8_2, le8_3, le8_4, le8_5, le8_6, le8_7, le8_8, Classical.not_not, aT40, aT41, aT42, aT44, aT54, aT58, aT59, rT54, rT58, rT59, reduceIte, Nat.reduceEqDiff, qn_42, qn_44, true_implies, not_true_eq_false, not_false_eq_true, false_implies, ↓shO_of hs.1.1]
  refine e133 hs hw hl hl2 hb ⟨_, rfl, ?_⟩
  unfold usM at hk
  cases hf : lst_ (tgM ws b) ws.length with
  | some j =>
    obtain ⟨p1, p2⟩ := lst_spec _ _ _ hf
    obtain ⟨w, hwj, tw⟩ := tgM_iff.mp p1
    rw [if_pos (by rw [List.any_eq_true]; exact ⟨w, List.mem_of_getElem? hwj, by rw [beq_iff_eq]; exact tw⟩)] at hk
    have e4 : oI (some j) = nI j := rfl
    refine vc_X 20 _ _ _ _ _ _ _ ?_
    simp only [↓v136_0, ↓v136_1, ↓v136_2, ↓v136_5, ↓v136_6, ↓v136_9, ↓v136_10, ↓v136_11, ↓v136_12, ↓v136_13, ↓v136_14, ↓v136_17, ↓v136_20, ↓v136_21, ↓v136_24, ↓v136_25, ↓v136_26, ↓v136_27, ↓v136_30, ↓v136_33, ↓v136_36, ↓v136_37, ↓v136_38, ↓v136_41, ↓v136_44, ↓v136_45, ↓v136_46, ↓v136_49, ↓v136_50, ↓v136_51, ↓v136_54, ↓v136_55, ↓v136_58, ↓v136_60, ↓v136_63, ↓v136_64, ↓v136_65, ↓v136_68, ↓v136_69, ↓v136_70, ↓v136_73, ↓v136_76, ↓v136_77, ↓v136_78, ↓v136_79, ↓v136_82, ↓v136_83, ↓v136_86, ↓v136_87, ↓v136_88, ↓v136_91, ↓v136_92, ↓v136_93, ↓v136_94, ↓v136_95, ↓v136_96, ↓v136_99, ↓v136_102, ↓v136_103, ↓v136_106, ↓v136_107, ↓v136_108, ↓v136_109, ↓qI_c, ↓qL_c, ↓qR_c, ↓pA_o, ↓qC_i, ↓qC_r, ↓oA_s, ↓gI_0, ↓gI_1, ↓gI_2, ↓gI_3, ↓gI_4, ↓gI_5, ↓gI_6, ↓gI_7, ↓gI_8, ↓gI_9, ↓gI_10, ↓gR_0, ↓gR_1, ↓gR_2, ↓gR_3, ↓gR_4, ↓gR_5, ↓gR_6, ↓gR_7, ↓gR_8, ↓gR_9, ↓gR_10, ↓sL_0, ↓sL_1, ↓sL_2, ↓sL_3, ↓sL_4, ↓sL_5, ↓sL_6, ↓sL_7, ↓sL_8, ↓sL_9, ↓sL_10, ↓rrf_si, ↓rrf_sg, ↓shO_si, ↓shO_sg, ↓shO_sr, ↓shA_si, ↓shA_sg, ↓shA_sr, ↓pAs_0, ↓pAs_i, ↓pAs_r, stk_n, stk_i, stk_l, stk_r, List.nil_append, List.cons_append, true_and, and_true, true_or, or_true, Nat.zero_add, dp_s, Nat.reduceAdd, le8_0, le8_1, le8_2, le8_3, le8_4, le8_5, le8_6, le8_7, le8_8, Classical.not_not, aT40, aT41, aT42, aT44, aT54, aT58, aT59, rT54, rT58, rT59, reduceIte, Nat.reduceEqDiff, qn_42, qn_44, true_implies, not_true_eq_false, not_false_eq_true, false_implies, e4, nI_nm (show j < 2147483648 by omega) (show ((-1 : Int32)).toInt < 0 by decide)]
    exact hk M hc Rf.rf_
  | none =>
    rw [if_neg (by
      intro c
      rw [List.any_eq_true] at c
      obtain ⟨y, hy, ty⟩ := c
      rw [beq_iff_eq] at ty
      exact tg_none hf y hy ty)] at hk
    obtain ⟨l, rd⟩ := C
    obtain ⟨g1, g2, g3, g4⟩ := hc
    have g1 : M.it r 27 = nI l.length := g1
    have g2 : l.length ≤ 6 := g2
    have g3 : ∀ j v, l[j]? = some v → M.it (r + 17) j = nI v ∧ v < 1000 := g3
    have g4 : M.it r 28 = nI rd := g4
    have hC : rd < 100000000 := hC
    have hfl := fi_le l b
    have hsh := hs.2.2.2.2.2.1
    have lopb : ∀ (p : Nat) (M1 : Mm), p < 6 → RS M1 r → (∀ M', (∀ j, j < 6 → M'.it (r + 17) j = (if j = 0 then nI b else if j ≤ p then M1.it (r + 17) (j - 1) else M1.it (r + 17) j)) → Rf r (· = r + 17) [27, 28] M1 M' → (∀ j, M'.it r j = M1.it r j) → k none M') → X (d + 1) 136 78 [some (.inr (some r)), some (.inl (nI b)), some (.inl (nI p))] [] M1 k := by
      intro p
      induction p with
      | zero =>
        intro M1 hp hs1 hk
        have t0 : (0 : Int32).toNatClampNeg = 0 := rfl
        refine vc_X 30 _ _ _ _ _ _ _ ?_
        simp only [↓v136_0, ↓v136_1, ↓v136_2, ↓v136_5, ↓v136_6, ↓v136_9, ↓v136_10, ↓v136_11, ↓v136_12, ↓v136_13, ↓v136_14, ↓v136_17, ↓v136_20, ↓v136_21, ↓v136_24, ↓v136_25, ↓v136_26, ↓v136_27, ↓v136_30, ↓v136_33, ↓v136_36, ↓v136_37, ↓v136_38, ↓v136_41, ↓v136_44, ↓v136_45, ↓v136_46, ↓v136_49, ↓v136_50, ↓v136_51, ↓v136_54, ↓v136_55, ↓v136_58, ↓v136_60, ↓v136_63, ↓v136_64, ↓v136_65, ↓v136_68, ↓v136_69, ↓v136_70, ↓v136_73, ↓v136_76, ↓v136_77, ↓v136_78, ↓v136_79, ↓v136_82, ↓v136_83, ↓v136_86, ↓v136_87, ↓v136_88, ↓v136_91, ↓v136_92, ↓v136_93, ↓v136_94, ↓v136_95, ↓v136_96, ↓v136_99, ↓v136_102, ↓v136_103, ↓v136_106, ↓v136_107, ↓v136_108, ↓v136_109, ↓qI_c, ↓qL_c, ↓qR_c, ↓pA_o, ↓qC_i, ↓qC_r, ↓oA_s, ↓gI_0, ↓gI_1, ↓gI_2, ↓gI_3, ↓gI_4, ↓gI_5, ↓gI_6, ↓gI_7, ↓gI_8, ↓gI_9, ↓gI_10, ↓gR_0, ↓gR_1, ↓gR_2, ↓gR_3, ↓gR_4, ↓gR_5, ↓gR_6, ↓gR_7, ↓gR_8, ↓gR_9, ↓gR_10, ↓sL_0, ↓sL_1, ↓sL_2, ↓sL_3, ↓sL_4, ↓sL_5, ↓sL_6, ↓sL_7, ↓sL_8, ↓sL_9, ↓sL_10, ↓rrf_si, ↓rrf_sg, ↓shO_si, ↓shO_sg, ↓shO_sr, ↓shA_si, ↓shA_sg, ↓shA_sr, ↓pAs_0, ↓pAs_i, ↓pAs_r, stk_n, stk_i, stk_l, stk_r, List.nil_append, List.cons_append, true_and, and_true, true_or, or_true, Nat.zero_add, dp_s, Nat.reduceAdd, le8_0, le8_1, le8_2, le8_3, le8_4, le8_5, le8_6, le8_7, le8_8, Classical.not_not, aT40, aT41, aT42, aT44, aT54, aT58, aT59, rT54, rT58, rT59, reduceIte, Nat.reduceEqDiff, qn_42, qn_44, true_implies, not_true_eq_false, not_false_eq_true, false_implies, ↓shO_of hs1.1.1, ↓rrf_of hs1.2.2.1.2.2.1, ↓shA_of hs1.2.2.2.2.2.1, le_T, T_0, nT (show 0 < 2147483648 by omega), t0]
        refine ⟨fun _ => ⟨inB_n (j := 0) (by omega) (by omega), ?_⟩, fun c => by omega⟩
        refine hk _ (fun j hj => ?_) (Rf.rf_.row rfl (by omega)) (fun j => by rw [si_it, if_neg (by omega)])
        rw [si_it]
        by_cases hj0 : j = 0
        · rw [if_pos ⟨rfl, hj0⟩, if_pos hj0]
        · rw [if_neg (fun q => hj0 q.2), if_neg hj0, if_neg (by omega)]
      | succ p ih =>
        intro M1 hp hs1 hk
        have e1 : nI (p + 1) + -1 = nI p := pk_m1 p
        have e2 : nI (p + 1) - 1 = nI p := nI_pred p
        refine vc_X 30 _ _ _ _ _ _ _ ?_
        simp only [↓v136_0, ↓v136_1, ↓v136_2, ↓v136_5, ↓v136_6, ↓v136_9, ↓v136_10, ↓v136_11, ↓v136_12, ↓v136_13, ↓v136_14, ↓v136_17, ↓v136_20, ↓v136_21, ↓v136_24, ↓v136_25, ↓v136_26, ↓v136_27, ↓v136_30, ↓v136_33, ↓v136_36, ↓v136_37, ↓v136_38, ↓v136_41, ↓v136_44, ↓v136_45, ↓v136_46, ↓v136_49, ↓v136_50, ↓v136_51, ↓v136_54, ↓v136_55, ↓v136_58, ↓v136_60, ↓v136_63, ↓v136_64, ↓v136_65, ↓v136_68, ↓v136_69, ↓v136_70, ↓v136_73, ↓v136_76, ↓v136_77, ↓v136_78, ↓v136_79, ↓v136_82, ↓v136_83, ↓v136_86, ↓v136_87, ↓v136_88, ↓v136_91, ↓v136_92, ↓v136_93, ↓v136_94, ↓v136_95, ↓v136_96, ↓v136_99, ↓v136_102, ↓v136_103, ↓v136_106, ↓v136_107, ↓v136_108, ↓v136_109, ↓qI_c, ↓qL_c, ↓qR_c, ↓pA_o, ↓qC_i, ↓qC_r, ↓oA_s, ↓gI_0, ↓gI_1, ↓gI_2, ↓gI_3, ↓gI_4, ↓gI_5, ↓gI_6, ↓gI_7, ↓gI_8, ↓gI_9, ↓gI_10, ↓gR_0, ↓gR_1, ↓gR_2, ↓gR_3, ↓gR_4, ↓gR_5, ↓gR_6, ↓gR_7, ↓gR_8, ↓gR_9, ↓gR_10, ↓sL_0, ↓sL_1, ↓sL_2, ↓sL_3, ↓sL_4, ↓sL_5, ↓sL_6, ↓sL_7, ↓sL_8, ↓sL_9, ↓sL_10, ↓rrf_si, ↓rrf_sg, ↓shO_si, ↓shO_sg, ↓shO_sr, ↓shA_si, ↓shA_sg, ↓shA_sr, ↓pAs_0, ↓pAs_i, ↓pAs_r, stk_n, stk_i, stk_l, stk_r, List.nil_append, List.cons_append, true_and, and_true, true_or, or_true, Nat.zero_add, dp_s, Nat.reduceAdd, le8_0, le8_1, le8_2, le8_3, le8_4, le8_5, le8_6, le8_7, le8_8, Classical.not_not, aT40, aT41, aT42, aT44, aT54, aT58, aT59, rT54, rT58, rT59, reduceIte, Nat.reduceEqDiff, qn_42, qn_44, true_implies, not_true_eq_false, not_false_eq_true, false_implies, ↓shO_of hs1.1.1, ↓rrf_of hs1.2.2.1.2.2.1, ↓shA_of hs1.2.2.2.2.2.1, le_T, T_0, nT (show p + 1 < 2147483648 by omega), e1, e2, nC (show p < 2147483648 by omega), nC (show p + 1 < 2147483648 by omega)]
        refine ⟨fun c => by omega, fun _ => ⟨inB_n (by omega) (by omega), inB_n (by omega) (by omega), ?_⟩⟩
        have o : Rf r (· = r + 17) [27, 28] M1 (M1.si (r + 17) (p + 1) (M1.it (r + 17) p)) := Rf.rf_.row rfl (by omega)
        refine ih _ (by omega) (hs1.oi o.1) (fun M' h6 o5 f5 => hk M' (fun j hj => ?_) (o.trans o5 (fun _ q => q) (fun _ q => q)) (fun j => by rw [f5, si_it, if_neg (by omega)]))
        rw [h6 j hj, si_it, si_it]
        by_cases h0 : j = 0
        · rw [if_pos h0, if_pos h0]
        · rw [if_neg h0, if_neg h0]
          by_cases h1 : j ≤ p
          · rw [if_pos h1, if_neg (fun q => by have := q.2; omega), if_pos (by omega)]
          · rw [if_neg h1]
            by_cases h2 : j = p + 1
            · rw [if_pos ⟨rfl, h2⟩, if_pos (by omega), h2]
              rfl
            · rw [if_neg (fun q => h2 q.2), if_neg (by omega)]
    have fin : ∀ (M1 : Mm) (p : Nat), p ≤ l.length → p < 6 → Rf r (· = r + 17) [27, 28] M M1 → (∀ i, M1.it (r + 17) i = M.it (r + 17) i) → M1.it r 27 = nI (cuP l p b).length → M1.it r 28 = nI (rd + cuR l b) → (if fi l b = l.length ∧ l.length = 6 then 5 else fi l b) = p → X (d + 1) 136 78 [some (.inr (some r)), some (.inl (nI b)), some (.inl (nI p))] [] M1 k := by
      intro M1 p hp hp6 o1 o1c q1 q2 q3
      refine lopb p M1 hp6 (hs.oi o1.1) (fun M' h6 o5 f5 => hk M' ?_ (o1.trans o5 (fun _ q => q) (fun _ q => q)))
      have hcl := cuP_len (b := b) hp
      refine ⟨?_, ?_, fun j v hj => ?_, ?_⟩
      · rw [f5, q1]
        show nI _ = nI (cuL l b).length
        unfold cuL
        rw [q3]
      · show (cuL l b).length ≤ 6
        unfold cuL
        rw [q3, hcl]
        split <;> omega
      · have hj : (cuL l b)[j]? = some v := hj
        unfold cuL at hj
        rw [q3] at hj
        have hj6 : j < 6 := by
          have := (List.getElem?_eq_some_iff.mp hj).1
          rw [hcl] at this
          split at this <;> omega
        rw [h6 j hj6]
        rcases cuP_get hp hj with ⟨h0, h1⟩ | ⟨h0, h1, h2⟩ | ⟨h1, h2⟩
        · rw [if_pos h0, h1]
          exact ⟨rfl, hb⟩
        · rw [if_neg (by omega), if_pos h1, o1c]
          exact g3 _ _ h2
        · rw [if_neg (by omega), if_neg (by omega), o1c]
          exact g3 _ _ h2
      · rw [f5, q2]
    have lopa : ∀ m p, p + m = fi l b → X (d + 1) 136 36 [some (.inr (some r)), some (.inl (nI b)), some (.inl (nI (fi l b)))] [] M k → X (d + 1) 136 12 [some (.inr (some r)), some (.inl (nI b)), some (.inl (nI p))] [] M k := by
      intro m
      induction m with
      | zero =>
        intro p hp hk
        have : p = fi l b := by omega
        subst this
        refine vc_X 30 _ _ _ _ _ _ _ ?_
        simp only [↓v136_0, ↓v136_1, ↓v136_2, ↓v136_5, ↓v136_6, ↓v136_9, ↓v136_10, ↓v136_11, ↓v136_12, ↓v136_13, ↓v136_14, ↓v136_17, ↓v136_20, ↓v136_21, ↓v136_24, ↓v136_25, ↓v136_26, ↓v136_27, ↓v136_30, ↓v136_33, ↓v136_36, ↓v136_37, ↓v136_38, ↓v136_41, ↓v136_44, ↓v136_45, ↓v136_46, ↓v136_49, ↓v136_50, ↓v136_51, ↓v136_54, ↓v136_55, ↓v136_58, ↓v136_60, ↓v136_63, ↓v136_64, ↓v136_65, ↓v136_68, ↓v136_69, ↓v136_70, ↓v136_73, ↓v136_76, ↓v136_77, ↓v136_78, ↓v136_79, ↓v136_82, ↓v136_83, ↓v136_86, ↓v136_87, ↓v136_88, ↓v136_91, ↓v136_92, ↓v136_93, ↓v136_94, ↓v136_95, ↓v136_96, ↓v136_99, ↓v136_102, ↓v136_103, ↓v136_106, ↓v136_107, ↓v136_108, ↓v136_109, ↓qI_c, ↓qL_c, ↓qR_c, ↓pA_o, ↓qC_i, ↓qC_r, ↓oA_s, ↓gI_0, ↓gI_1, ↓gI_2, ↓gI_3, ↓gI_4, ↓gI_5, ↓gI_6, ↓gI_7, ↓gI_8, ↓gI_9, ↓gI_10, ↓gR_0, ↓gR_1, ↓gR_2, ↓gR_3, ↓gR_4, ↓gR_5, ↓gR_6, ↓gR_7, ↓gR_8, ↓gR_9, ↓gR_10, ↓sL_0, ↓sL_1, ↓sL_2, ↓sL_3, ↓sL_4, ↓sL_5, ↓sL_6, ↓sL_7, ↓sL_8, ↓sL_9, ↓sL_10, ↓rrf_si, ↓rrf_sg, ↓shO_si, ↓shO_sg, ↓shO_sr, ↓shA_si, ↓shA_sg, ↓shA_sr, ↓pAs_0, ↓pAs_i, ↓pAs_r, stk_n, stk_i, stk_l, stk_r, List.nil_append, List.cons_append, true_and, and_true, true_or, or_true, Nat.zero_add, dp_s, Nat.reduceAdd, le8_0, le8_1, le8_2, le8_3, le8_4, le8_5, le8_6, le8_7, le8_8, Classical.not_not, aT40, aT41, aT42, aT44, aT54, aT58, aT59, rT54, rT58, rT59, reduceIte, Nat.reduceEqDiff, qn_42, qn_44, true_implies, not_true_eq_false, not_false_eq_true, false_implies, ↓shO_of hs.1.1, ↓rrf_of hs.2.2.1.2.2.1, ↓shA_of hsh, le_T, g1, nT (show l.length < 2147483648 by omega), nT (show fi l b < 2147483648 by omega), nC (show fi l b < 2147483648 by omega)]
        refine ⟨fun _ => hk, fun c => ⟨inB_n (by omega) (by omega), fun _ => hk, fun c2 => ?_⟩⟩
        exact absurd (g3 _ _ (fi_get l b (by omega))).1 c2
      | succ m ih =>
        intro p hp hk
        have hpl : p < l.length := by omega
        have hv : l[p]? = some l[p] := List.getElem?_eq_getElem hpl
        have hvb : ¬ l[p] = b := fun q => fi_ne l b p (by omega) (by rw [hv, q])
        obtain ⟨e1, e2⟩ := g3 p _ hv
        refine vc_X 30 _ _ _ _ _ _ _ ?_
        simp only [↓v136_0, ↓v136_1, ↓v136_2, ↓v136_5, ↓v136_6, ↓v136_9, ↓v136_10, ↓v136_11, ↓v136_12, ↓v136_13, ↓v136_14, ↓v136_17, ↓v136_20, ↓v136_21, ↓v136_24, ↓v136_25, ↓v136_26, ↓v136_27, ↓v136_30, ↓v136_33, ↓v136_36, ↓v136_37, ↓v136_38, ↓v136_41, ↓v136_44, ↓v136_45, ↓v136_46, ↓v136_49, ↓v136_50, ↓v136_51, ↓v136_54, ↓v136_55, ↓v136_58, ↓v136_60, ↓v136_63, ↓v136_64, ↓v136_65, ↓v136_68, ↓v136_69, ↓v136_70, ↓v136_73, ↓v136_76, ↓v136_77, ↓v136_78, ↓v136_79, ↓v136_82, ↓v136_83, ↓v136_86, ↓v136_87, ↓v136_88, ↓v136_91, ↓v136_92, ↓v136_93, ↓v136_94, ↓v136_95, ↓v136_96, ↓v136_99, ↓v136_102, ↓v136_103, ↓v136_106, ↓v136_107, ↓v136_108, ↓v136_109, ↓qI_c, ↓qL_c, ↓qR_c, ↓pA_o, ↓qC_i, ↓qC_r, ↓oA_s, ↓gI_0, ↓gI_1, ↓gI_2, ↓gI_3, ↓gI_4, ↓gI_5, ↓gI_6, ↓gI_7, ↓gI_8, ↓gI_9, ↓gI_10, ↓gR_0, ↓gR_1, ↓gR_2, ↓gR_3, ↓gR_4, ↓gR_5, ↓gR_6, ↓gR_7, ↓gR_8, ↓gR_9, ↓gR_10, ↓sL_0, ↓sL_1, ↓sL_2, ↓sL_3, ↓sL_4, ↓sL_5, ↓sL_6, ↓sL_7, ↓sL_8, ↓sL_9, ↓sL_10, ↓rrf_si, ↓rrf_sg, ↓shO_si, ↓shO_sg, ↓shO_sr, ↓shA_si, ↓shA_sg, ↓shA_sr, ↓pAs_0, ↓pAs_i, ↓pAs_r, stk_n, stk_i, stk_l, stk_r, List.nil_append, List.cons_append, true_and, and_true, true_or, or_true, Nat.zero_add, dp_s, Nat.reduceAdd, le8_0, le8_1, le8_2, le8_3, le8_4, le8_5, le8_6, le8_7, le8_8, Classical.not_not, aT40, aT41, aT42, aT44, aT54, aT58, aT59, rT54, rT58, rT59, reduceIte, Nat.reduceEqDiff, qn_42, qn_44, true_implies, not_true_eq_false, not_false_eq_true, false_implies, ↓shO_of hs.1.1, ↓rrf_of hs.2.2.1.2.2.1, ↓shA_of hsh, le_T, g1, nT (show l.length < 2147483648 by omega), nT (show p < 2147483648 by omega), nC (show p < 2147483648 by omega), e1, nI_1]
        refine ⟨fun c => by omega, fun c => ⟨inB_n (by omega) (by omega), fun c2 => ?_, fun c2 => ih (p + 1) (by omega) hk⟩⟩
        rw [nI_eq (by omega) (by omega)] at c2
        exact absurd c2 hvb
    refine vc_X 20 _ _ _ _ _ _ _ ?_
    simp only [↓v136_0, ↓v136_1, ↓v136_2, ↓v136_5, ↓v136_6, ↓v136_9, ↓v136_10, ↓v136_11, ↓v136_12, ↓v136_13, ↓v136_14, ↓v136_17, ↓v136_20, ↓v136_21, ↓v136_24, ↓v136_25, ↓v136_26, ↓v136_27, ↓v136_30, ↓v136_33, ↓v136_36, ↓v136_37, ↓v136_38, ↓v136_41, ↓v136_44, ↓v136_45, ↓v136_46, ↓v136_49, ↓v136_50, ↓v136_51, ↓v136_54, ↓v136_55, ↓v136_58, ↓v136_60, ↓v136_63, ↓v136_64, ↓v136_65, ↓v136_68, ↓v136_69, ↓v136_70, ↓v136_73, ↓v136_76, ↓v136_77, ↓v136_78, ↓v136_79, ↓v136_82, ↓v136_83, ↓v136_86, ↓v136_87, ↓v136_88, ↓v136_91, ↓v136_92, ↓v136_93, ↓v136_94, ↓v136_95, ↓v136_96, ↓v136_99, ↓v136_102, ↓v136_103, ↓v136_106, ↓v136_107, ↓v136_108, ↓v136_109, ↓qI_c, ↓qL_c, ↓qR_c, ↓pA_o, ↓qC_i, ↓qC_r, ↓oA_s, ↓gI_0, ↓gI_1, ↓gI_2, ↓gI_3, ↓gI_4, ↓gI_5, ↓gI_6, ↓gI_7, ↓gI_8, ↓gI_9, ↓gI_10, ↓gR_0, ↓gR_1, ↓gR_2, ↓gR_3, ↓gR_4, ↓gR_5, ↓gR_6, ↓gR_7, ↓gR_8, ↓gR_9, ↓gR_10, ↓sL_0, ↓sL_1, ↓sL_2, ↓sL_3, ↓sL_4, ↓sL_5, ↓sL_6, ↓sL_7, ↓sL_8, ↓sL_9, ↓sL_10, ↓rrf_si, ↓rrf_sg, ↓shO_si, ↓shO_sg, ↓shO_sr, ↓shA_si, ↓shA_sg, ↓shA_sr, ↓pAs_0, ↓pAs_i, ↓pAs_r, stk_n, stk_i, stk_l, stk_r, List.nil_append, List.cons_append, true_and, and_true, true_or, or_true, Nat.zero_add, dp_s, Nat.reduceAdd, le8_0, le8_1, le8_2, le8_3, le8_4, le8_5, le8_6, le8_7, le8_8, Classical.not_not, aT40, aT41, aT42, aT44, aT54, aT58, aT59, rT54, rT58, rT59, reduceIte, Nat.reduceEqDiff, qn_42, qn_44, true_implies, not_true_eq_false, not_false_eq_true, false_implies, oI_none, m11]
    refine lopa (fi l b) 0 (by omega) ?_
    have t : (nI (fi l b) = nI l.length) ↔ fi l b = l.length := nI_eq (by omega) (by omega)
    refine vc_X 30 _ _ _ _ _ _ _ ?_
    simp only [↓v136_0, ↓v136_1, ↓v136_2, ↓v136_5, ↓v136_6, ↓v136_9, ↓v136_10, ↓v136_11, ↓v136_12, ↓v136_13, ↓v136_14, ↓v136_17, ↓v136_20, ↓v136_21, ↓v136_24, ↓v136_25, ↓v136_26, ↓v136_27, ↓v136_30, ↓v136_33, ↓v136_36, ↓v136_37, ↓v136_38, ↓v136_41, ↓v136_44, ↓v136_45, ↓v136_46, ↓v136_49, ↓v136_50, ↓v136_51, ↓v136_54, ↓v136_55, ↓v136_58, ↓v136_60, ↓v136_63, ↓v136_64, ↓v136_65, ↓v136_68, ↓v136_69, ↓v136_70, ↓v136_73, ↓v136_76, ↓v136_77, ↓v136_78, ↓v136_79, ↓v136_82, ↓v136_83, ↓v136_86, ↓v136_87, ↓v136_88, ↓v136_91, ↓v136_92, ↓v136_93, ↓v136_94, ↓v136_95, ↓v136_96, ↓v136_99, ↓v136_102, ↓v136_103, ↓v136_106, ↓v136_107, ↓v136_108, ↓v136_109, ↓qI_c, ↓qL_c, ↓qR_c, ↓pA_o, ↓qC_i, ↓qC_r, ↓oA_s, ↓gI_0, ↓gI_1, ↓gI_2, ↓gI_3, ↓gI_4, ↓gI_5, ↓gI_6, ↓gI_7, ↓gI_8, ↓gI_9, ↓gI_10, ↓gR_0, ↓gR_1, ↓gR_2, ↓gR_3, ↓gR_4, ↓gR_5, ↓gR_6, ↓gR_7, ↓gR_8, ↓gR_9, ↓gR_10, ↓sL_0, ↓sL_1, ↓sL_2, ↓sL_3, ↓sL_4, ↓sL_5, ↓sL_6, ↓sL_7, ↓sL_8, ↓sL_9, ↓sL_10, ↓rrf_si, ↓rrf_sg, ↓shO_si, ↓shO_sg, ↓shO_sr, ↓shA_si, ↓shA_sg, ↓shA_sr, ↓pAs_0, ↓pAs_i, ↓pAs_r, stk_n, stk_i, stk_l, stk_r, List.nil_append, List.cons_append, true_and, and_true, true_or, or_true, Nat.zero_add, dp_s, Nat.reduceAdd, le8_0, le8_1, le8_2, le8_3, le8_4, le8_5, le8_6, le8_7, le8_8, Classical.not_not, aT40, aT41, aT42, aT44, aT54, aT58, aT59, rT54, rT58, rT59, reduceIte, Nat.reduceEqDiff, qn_42, qn_44, true_implies, not_true_eq_false, not_false_eq_true, false_implies, ↓shO_of hs.1.1, g1, g4, si_it, t, le_T, T_6, nT (show l.length < 2147483648 by omega), nI_1, n_5]
    refine ⟨fun c => ?_, fun c => ⟨fun c6 => ?_, fun c6 => ?_⟩⟩
    · refine fin M (fi l b) hfl (by omega) Rf.rf_ (fun _ => rfl) ?_ ?_ (if_neg (fun q => c q.1))
      · rw [cuP_len hfl, if_neg c]
        exact g1
      · rw [show cuR l b = 0 from if_neg c]
        exact g4
    · have h6 : l.length = 6 := by omega
      refine fin _ 5 (by omega) (by omega) (Rf.rf_.fld (by simp)) (fun i => by rw [si_it, if_neg (by omega)]) ?_ ?_ (if_pos ⟨c, h6⟩)
      · rw [cuP_len (by omega), if_neg (by omega), si_it, if_neg (fun q => by simp at q)]
        exact g1
      · rw [show cuR l b = 1 from if_pos c, si_it, if_pos ⟨rfl, rfl⟩]
    · refine fin _ (fi l b) hfl (by omega) ((Rf.rf_.fld (by simp)).fld (by simp)) (fun i => by rw [si_it, if_neg (by omega), si_it, if_neg (by omega)]) ?_ ?_ (if_neg (fun q => by omega))
      · rw [cuP_len hfl, if_pos c, si_it, if_pos ⟨rfl, rfl⟩]
      · rw [show cuR l b = 1 from if_pos c, si_it, if_neg (fun q => by simp at q), si_it, if_pos ⟨rfl, rfl⟩]
theorem RcP.oi {P : Nat → Prop} {M M' : Mm} {a o : Nat} {q : RecT} (h : RcP M a o q) (g : Oi P M M') (ha : ¬ P a) : RcP M' a o q := h.cong (fun i _ => g.at_ ha _)
theorem RW1.oi {P : Nat → Prop} {M M' : Mm} {r i : Nat} {w : Wm} (h : RW1 M r i w) (o : Oi P M M') (hP : ∀ y, r + 10 ≤ y → y ≤ r + 15 → ¬ P y) : RW1 M' r i w := by
  obtain ⟨⟨a1, a2, a3⟩, ⟨l, l1, l2, l3, l4, l5⟩, b1, b2⟩ := h
  have e : ∀ y, r + 10 ≤ y → y ≤ r + 15 → ∀ j, M'.it y j = M.it y j := fun y h1 h2 j => o.at_ (hP y h1 h2) j
  exact ⟨⟨by rw [e _ (by omega) (by omega)]; exact a1, by rw [e _ (by omega) (by omega)]; exact a2, a3⟩, ⟨l, l1, l2, l3, by rw [e _ (by omega) (by omega)]; exact l4, fun j v hj => by rw [e _ (by omega) (by omega)]; exact l5 j v hj⟩, fun hr j hj => by rw [e _ (by omega) (by omega)]; exact b1 hr j hj, fun q hq => (b2 q hq).oi o (hP _ (by omega) (by omega))⟩
theorem RWs.oi {P : Nat → Prop} {M M' : Mm} {r : Nat} {ws : List Wm} (h : RWs M r ws) (o : Oi P M M') (hP : ∀ y, r + 10 ≤ y → y ≤ r + 15 → ¬ P y) : RWs M' r ws := fun i w hw => (h i w hw).oi o hP
theorem RD2.rf {P : Nat → Prop} {Fs : List Nat} {M M' : Mm} {r md : Nat} {dk : Nat → Nat → Nat} {ws : List Wm} (h : RD2 M r dk ws md) (o : Rf r P Fs M M') (hP : ∀ y, r + 10 ≤ y → y ≤ r + 15 → ¬ P y) (h2 : ¬ P (r + 2)) (h14 : 14 ∉ Fs) : RD2 M' r dk ws md := by
  obtain ⟨a1, a2, a3, a4, a5, a6⟩ := h
  exact ⟨a1.oi o.1, a2.oi o.1 (fun y y1 y2 q => q.elim (by omega) (hP y y1 y2)), by rw [o.2 14 h14]; exact a3, a4, fun bl i hb hi => by rw [o.at_ (by omega) h2]; exact a5 bl i hb hi, a6⟩
theorem e135 {d : Nat} {M : Mm} {k : mQ} {r p md : Nat} {ws : List Wm} {dk : Nat → Nat → Nat} {C : List Nat × Nat} (h : RD2 M r dk ws md) (hc : RCa M r C) (hp : p < 128) (hC : C.2 + 100 < 100000000) (hk : ∀ M', RCa M' r (usC ws C p (nbS (vw dk ws) p)) → Rf r (· = r + 17) [27, 28] M M' → k none M') : XC (d + 4) 135 [.inr (some r), .inl (nI p)] M k := by
  have hv : vw dk ws p 3 < 256 := vw_bt h.2.2.2.2.2.2 (fun x hx => (h.2.2.2.2.2.1.2 x hx).2.2.1) (fun x hx tx => by
    cases hr : x.r with
    | none => rfl
    | some q => have := (h.2.2.2.2.2.1.2 x hx).2.2.2 q hr; omega) 3
  have hn : nbS (vw dk ws) p ≤ 17 := by unfold nbS; omega
  have lop : ∀ (m i : Nat) (M1 : Mm), i + m = nbS (vw dk ws) p → RCa M1 r (usC ws C p i) → Rf r (· = r + 17) [27, 28] M M1 → X (d + 3) 135 2 [some (.inr (some r)), some (.inl (nI p)), some (.inl (nI i))] [] M1 k := by
    intro m
    induction m with
    | zero =>
      intro i M1 hi c1 o1
      have h1 := h.rf o1 (fun y y1 y2 q => by omega) (by omega) (by simp)
      have e : i = nbS (vw dk ws) p := by omega
      refine vc_X 20 _ _ _ _ _ _ _ ?_
      simp only [↓v135_0, ↓v135_1, ↓v135_2, ↓v135_3, ↓v135_4, ↓v135_5, ↓v135_8, ↓v135_11, ↓v135_14, ↓v135_15, ↓v135_16, ↓v135_17, ↓v135_18, ↓v135_21, ↓v135_24, ↓v135_27, ↓qI_c, ↓qL_c, ↓qR_c, ↓pA_o, ↓qC_i, ↓qC_r, ↓oA_s, ↓gI_0, ↓gI_1, ↓gI_2, ↓gI_3, ↓gI_4, ↓gI_5, ↓gI_6, ↓gI_7, ↓gI_8, ↓gI_9, ↓gI_10, ↓gR_0, ↓gR_1, ↓gR_2, ↓gR_3, ↓gR_4, ↓gR_5, ↓gR_6, ↓gR_7, ↓gR_8, ↓gR_9, ↓gR_10, ↓sL_0, ↓sL_1, ↓sL_2, ↓sL_3, ↓sL_4, ↓sL_5, ↓sL_6, ↓sL_7, ↓sL_8, ↓sL_9, ↓sL_10, ↓rrf_si, ↓rrf_sg, ↓shO_si, ↓shO_sg, ↓shO_sr, ↓shA_si, ↓shA_sg, ↓shA_sr, ↓pAs_0, ↓pAs_i, ↓pAs_r, stk_n, stk_i, stk_l, stk_r, List.nil_append, List.cons_append, true_and, and_true, true_or, or_true, Nat.zero_add, dp_s, Nat.reduceAdd, le8_0, le8_1, le8_2, le8_3, le8_4, le8_5, le8_6, le8_7, le8_8, Classical.not_not, aT40, aT41, aT42, aT44, aT54, aT58, aT59, rT54, rT58, rT59, reduceIte, Nat.reduceEqDiff, qn_42, qn_44, true_implies, not_true_eq_false, not_false_eq_true, false_implies, ↓shO_of h1.1.1.1]
      refine e131 h1 hp ⟨_, rfl, ?_⟩
      refine vc_X 20 _ _ _ _ _ _ _ ?_
      simp only [↓v135_0, ↓v135_1, ↓v135_2, ↓v135_3, ↓v135_4, ↓v135_5, ↓v135_8, ↓v135_11, ↓v135_14, ↓v135_15, ↓v135_16, ↓v135_17, ↓v135_18, ↓v135_21, ↓v135_24, ↓v135_27, ↓qI_c, ↓qL_c, ↓qR_c, ↓pA_o, ↓qC_i, ↓qC_r, ↓oA_s, ↓gI_0, ↓gI_1, ↓gI_2, ↓gI_3, ↓gI_4, ↓gI_5, ↓gI_6, ↓gI_7, ↓gI_8, ↓gI_9, ↓gI_10, ↓gR_0, ↓gR_1, ↓gR_2, ↓gR_3, ↓gR_4, ↓gR_5, ↓gR_6, ↓gR_7, ↓gR_8, ↓gR_9, ↓gR_10, ↓sL_0, ↓sL_1, ↓sL_2, ↓sL_3, ↓sL_4, ↓sL_5, ↓sL_6, ↓sL_7, ↓sL_8, ↓sL_9, ↓sL_10, ↓rrf_si, ↓rrf_sg, ↓shO_si, ↓shO_sg, ↓shO_sr, ↓shA_si, ↓shA_sg, ↓shA_sr, ↓pAs_0, ↓pAs_i, ↓pAs_r, stk_n, stk_i, stk_l, stk_r, List.nil_append, List.cons_append, true_and, and_true, true_or, or_true, Nat.zero_add, dp_s, Nat.reduceAdd, le8_0, le8_1, le8_2, le8_3, le8_4, le8_5, le8_6, le8_7, le8_8, Classical.not_not, aT40, aT41, aT42, aT44, aT54, aT58, aT59, rT54, rT58, rT59, reduceIte, Nat.reduceEqDiff, qn_42, qn_44, true_implies, not_true_eq_false, not_false_eq_true, false_implies]
      refine e122 (by unfold lnS; omega) ⟨_, rfl, ?_⟩
      show X _ 135 11 _ [.inl (nI (nbS (vw dk ws) p)), .inl (nI i)] M1 k
      rw [← e]
      refine vc_X 20 _ _ _ _ _ _ _ ?_
      simp only [↓v135_0, ↓v135_1, ↓v135_2, ↓v135_3, ↓v135_4, ↓v135_5, ↓v135_8, ↓v135_11, ↓v135_14, ↓v135_15, ↓v135_16, ↓v135_17, ↓v135_18, ↓v135_21, ↓v135_24, ↓v135_27, ↓qI_c, ↓qL_c, ↓qR_c, ↓pA_o, ↓qC_i, ↓qC_r, ↓oA_s, ↓gI_0, ↓gI_1, ↓gI_2, ↓gI_3, ↓gI_4, ↓gI_5, ↓gI_6, ↓gI_7, ↓gI_8, ↓gI_9, ↓gI_10, ↓gR_0, ↓gR_1, ↓gR_2, ↓gR_3, ↓gR_4, ↓gR_5, ↓gR_6, ↓gR_7, ↓gR_8, ↓gR_9, ↓gR_10, ↓sL_0, ↓sL_1, ↓sL_2, ↓sL_3, ↓sL_4, ↓sL_5, ↓sL_6, ↓sL_7, ↓sL_8, ↓sL_9, ↓sL_10, ↓rrf_si, ↓rrf_sg, ↓shO_si, ↓shO_sg, ↓shO_sr, ↓shA_si, ↓shA_sg, ↓shA_sr, ↓pAs_0, ↓pAs_i, ↓pAs_r, stk_n, stk_i, stk_l, stk_r, List.nil_append, List.cons_append, true_and, and_true, true_or, or_true, Nat.zero_add, dp_s, Nat.reduceAdd, le8_0, le8_1, le8_2, le8_3, le8_4, le8_5, le8_6, le8_7, le8_8, Classical.not_not, aT40, aT41, aT42, aT44, aT54, aT58, aT59, rT54, rT58, rT59, reduceIte, Nat.reduceEqDiff, qn_42, qn_44, true_implies, not_true_eq_false, not_false_eq_true, false_implies, le_T, nT (show i < 2147483648 by omega), Int.le_refl]
      rw [e] at c1
      exact hk M1 c1 o1
    | succ m ih =>
      intro i M1 hi c1 o1
      have h1 := h.rf o1 (fun y y1 y2 q => by omega) (by omega) (by simp)
      have hle := usC_le ws C p i
      have e2 : nI p + nI i = nI (p + i) := nI_add _ _
      refine vc_X 20 _ _ _ _ _ _ _ ?_
      simp only [↓v135_0, ↓v135_1, ↓v135_2, ↓v135_3, ↓v135_4, ↓v135_5, ↓v135_8, ↓v135_11, ↓v135_14, ↓v135_15, ↓v135_16, ↓v135_17, ↓v135_18, ↓v135_21, ↓v135_24, ↓v135_27, ↓qI_c, ↓qL_c, ↓qR_c, ↓pA_o, ↓qC_i, ↓qC_r, ↓oA_s, ↓gI_0, ↓gI_1, ↓gI_2, ↓gI_3, ↓gI_4, ↓gI_5, ↓gI_6, ↓gI_7, ↓gI_8, ↓gI_9, ↓gI_10, ↓gR_0, ↓gR_1, ↓gR_2, ↓gR_3, ↓gR_4, ↓gR_5, ↓gR_6, ↓gR_7, ↓gR_8, ↓gR_9, ↓gR_10, ↓sL_0, ↓sL_1, ↓sL_2, ↓sL_3, ↓sL_4, ↓sL_5, ↓sL_6, ↓sL_7, ↓sL_8, ↓sL_9, ↓sL_10, ↓rrf_si, ↓rrf_sg, ↓shO_si, ↓shO_sg, ↓shO_sr, ↓shA_si, ↓shA_sg, ↓shA_sr, ↓pAs_0, ↓pAs_i, ↓pAs_r, stk_n, stk_i, stk_l, stk_r, List.nil_append, List.cons_append, true_and, and_true, true_or, or_true, Nat.zero_add, dp_s, Nat.reduceAdd, le8_0, le8_1, le8_2, le8_3, le8_4, le8_5, le8_6, le8_7, le8_8, Classical.not_not, aT40, aT41, aT42, aT44, aT54, aT58, aT59, rT54, rT58, rT59, reduceIte, Nat.reduceEqDiff, qn_42, qn_44, true_implies, not_true_eq_false, not_false_eq_true, false_implies, ↓shO_of h1.1.1.1]
      refine e131 h1 hp ⟨_, rfl, ?_⟩
      refine vc_X 20 _ _ _ _ _ _ _ ?_
      simp only [↓v135_0, ↓v135_1, ↓v135_2, ↓v135_3, ↓v135_4, ↓v135_5, ↓v135_8, ↓v135_11, ↓v135_14, ↓v135_15, ↓v135_16, ↓v135_17, ↓v135_18, ↓v135_21, ↓v135_24, ↓v135_27, ↓qI_c, ↓qL_c, ↓qR_c, ↓pA_o, ↓qC_i, ↓qC_r, ↓oA_s, ↓gI_0, ↓gI_1, ↓gI_2, ↓gI_3, ↓gI_4, ↓gI_5, ↓gI_6, ↓gI_7, ↓gI_8, ↓gI_9, ↓gI_10, ↓gR_0, ↓gR_1, ↓gR_2, ↓gR_3, ↓gR_4, ↓gR_5, ↓gR_6, ↓gR_7, ↓gR_8, ↓gR_9, ↓gR_10, ↓sL_0, ↓sL_1, ↓sL_2, ↓sL_3, ↓sL_4, ↓sL_5, ↓sL_6, ↓sL_7, ↓sL_8, ↓sL_9, ↓sL_10, ↓rrf_si, ↓rrf_sg, ↓shO_si, ↓shO_sg, ↓shO_sr, ↓shA_si, ↓shA_sg, ↓shA_sr, ↓pAs_0, ↓pAs_i, ↓pAs_r, stk_n, stk_i, stk_l, stk_r, List.nil_append, List.cons_append, true_and, and_true, true_or, or_true, Nat.zero_add, dp_s, Nat.reduceAdd, le8_0, le8_1, le8_2, le8_3, le8_4, le8_5, le8_6, le8_7, le8_8, Classical.not_not, aT40, aT41, aT42, aT44, aT54, aT58, aT59, rT54, rT58, rT59, reduceIte, Nat.reduceEqDiff, qn_42, qn_44, true_implies, not_true_eq_false, not_false_eq_true, false_implies]
      refine e122 (by unfold lnS; omega) ⟨_, rfl, ?_⟩
      show X _ 135 11 _ [.inl (nI (nbS (vw dk ws) p)), .inl (nI i)] M1 k
      refine vc_X 20 _ _ _ _ _ _ _ ?_
      simp only [↓v135_0, ↓v135_1, ↓v135_2, ↓v135_3, ↓v135_4, ↓v135_5, ↓v135_8, ↓v135_11, ↓v135_14, ↓v135_15, ↓v135_16, ↓v135_17, ↓v135_18, ↓v135_21, ↓v135_24, ↓v135_27, ↓qI_c, ↓qL_c, ↓qR_c, ↓pA_o, ↓qC_i, ↓qC_r, ↓oA_s, ↓gI_0, ↓gI_1, ↓gI_2, ↓gI_3, ↓gI_4, ↓gI_5, ↓gI_6, ↓gI_7, ↓gI_8, ↓gI_9, ↓gI_10, ↓gR_0, ↓gR_1, ↓gR_2, ↓gR_3, ↓gR_4, ↓gR_5, ↓gR_6, ↓gR_7, ↓gR_8, ↓gR_9, ↓gR_10, ↓sL_0, ↓sL_1, ↓sL_2, ↓sL_3, ↓sL_4, ↓sL_5, ↓sL_6, ↓sL_7, ↓sL_8, ↓sL_9, ↓sL_10, ↓rrf_si, ↓rrf_sg, ↓shO_si, ↓shO_sg, ↓shO_sr, ↓shA_si, ↓shA_sg, ↓shA_sr, ↓pAs_0, ↓pAs_i, ↓pAs_r, stk_n, stk_i, stk_l, stk_r, List.nil_append, List.cons_append, true_and, and_true, true_or, or_true, Nat.zero_add, dp_s, Nat.reduceAdd, le8_0, le8_1, le8_2, le8_3, le8_4, le8_5, le8_6, le8_7, le8_8, Classical.not_not, aT40, aT41, aT42, aT44, aT54, aT58, aT59, rT54, rT58, rT59, reduceIte, Nat.reduceEqDiff, qn_42, qn_44, true_implies, not_true_eq_false, not_false_eq_true, false_implies, le_T, nT (show i < 2147483648 by omega), nT (show nbS (vw dk ws) p < 2147483648 by omega), ↓shO_of h1.1.1.1, e2]
      refine ⟨fun c => by omega, fun _ => ?_⟩
      refine e136 h1 c1 (show p + i < 1000 by omega) (by omega) (fun M2 c2 o2 => ⟨rfl, ?_⟩)
      refine vc_X 20 _ _ _ _ _ _ _ ?_
      simp only [↓v135_0, ↓v135_1, ↓v135_2, ↓v135_3, ↓v135_4, ↓v135_5, ↓v135_8, ↓v135_11, ↓v135_14, ↓v135_15, ↓v135_16, ↓v135_17, ↓v135_18, ↓v135_21, ↓v135_24, ↓v135_27, ↓qI_c, ↓qL_c, ↓qR_c, ↓pA_o, ↓qC_i, ↓qC_r, ↓oA_s, ↓gI_0, ↓gI_1, ↓gI_2, ↓gI_3, ↓gI_4, ↓gI_5, ↓gI_6, ↓gI_7, ↓gI_8, ↓gI_9, ↓gI_10, ↓gR_0, ↓gR_1, ↓gR_2, ↓gR_3, ↓gR_4, ↓gR_5, ↓gR_6, ↓gR_7, ↓gR_8, ↓gR_9, ↓gR_10, ↓sL_0, ↓sL_1, ↓sL_2, ↓sL_3, ↓sL_4, ↓sL_5, ↓sL_6, ↓sL_7, ↓sL_8, ↓sL_9, ↓sL_10, ↓rrf_si, ↓rrf_sg, ↓shO_si, ↓shO_sg, ↓shO_sr, ↓shA_si, ↓shA_sg, ↓shA_sr, ↓pAs_0, ↓pAs_i, ↓pAs_r, stk_n, stk_i, stk_l, stk_r, List.nil_append, List.cons_append, true_and, and_true, true_or, or_true, Nat.zero_add, dp_s, Nat.reduceAdd, le8_0, le8_1, le8_2, le8_3, le8_4, le8_5, le8_6, le8_7, le8_8, Classical.not_not, aT40, aT41, aT42, aT44, aT54, aT58, aT59, rT54, rT58, rT59, reduceIte, Nat.reduceEqDiff, qn_42, qn_44, true_implies, not_true_eq_false, not_false_eq_true, false_implies, nI_1]
      exact ih (i + 1) M2 (by omega) c2 (o1.trans o2 (fun _ q => q) (fun _ q => q))
  refine xc ?_
  show X (d + 3) 135 0 [some (.inr (some r)), some (.inl (nI p)), none] [] M k
  refine vc_X 20 _ _ _ _ _ _ _ ?_
  simp only [↓v135_0, ↓v135_1, ↓v135_2, ↓v135_3, ↓v135_4, ↓v135_5, ↓v135_8, ↓v135_11, ↓v135_14, ↓v135_15, ↓v135_16, ↓v135_17, ↓v135_18, ↓v135_21, ↓v135_24, ↓v135_27, ↓qI_c, ↓qL_c, ↓qR_c, ↓pA_o, ↓qC_i, ↓qC_r, ↓oA_s, ↓gI_0, ↓gI_1, ↓gI_2, ↓gI_3, ↓gI_4, ↓gI_5, ↓gI_6, ↓gI_7, ↓gI_8, ↓gI_9, ↓gI_10, ↓gR_0, ↓gR_1, ↓gR_2, ↓gR_3, ↓gR_4, ↓gR_5, ↓gR_6, ↓gR_7, ↓gR_8, ↓gR_9, ↓gR_10, ↓sL_0, ↓sL_1, ↓sL_2, ↓sL_3, ↓sL_4, ↓sL_5, ↓sL_6, ↓sL_7, ↓sL_8, ↓sL_9, ↓sL_10, ↓rrf_si, ↓rrf_sg, ↓shO_si, ↓shO_sg, ↓shO_sr, ↓shA_si, ↓shA_sg, ↓shA_sr, ↓pAs_0, ↓pAs_i, ↓pAs_r, stk_n, stk_i, stk_l, stk_r, List.nil_append, List.cons_append, true_and, and_true, true_or, or_true, Nat.zero_add, dp_s, Nat.reduceAdd, le8_0, le8_1, le8_2, le8_3, le8_4, le8_5, le8_6, le8_7, le8_8, Classical.not_not, aT40, aT41, aT42, aT44, aT54, aT58, aT59, rT54, rT58, rT59, reduceIte, Nat.reduceEqDiff, qn_42, qn_44, true_implies, not_true_eq_false, not_false_eq_true, false_implies]
  exact lop (nbS (vw dk ws) p) 0 M (by omega) hc Rf.rf_
theorem e152 {d : Nat} {M : Mm} {k : mQ} {r n : Nat} {ws : List Wm} (hs : RS M r) (hw : RWs M r ws) (hl : M.it r 14 = nI ws.length) (hl2 : ws.length ≤ 160) (hn : n < 1000000) (hk : k (some (.inl (bI (wtN ws n)))) M) : XC (d + 1) 152 [.inr (some r), .inl (nI n)] M k := by
  have lop : ∀ m i, i + m = ws.length → (∀ j w, j < i → ws[j]? = some w → w.n ≠ n) → X d 152 2 [some (.inr (some r)), some (.inl (nI n)), some (.inl (nI i))] [] M k := by
    intro m
    induction m with
    | zero =>
      intro i hi hno
      have e : i = ws.length := by omega
      subst e
      have : wtN ws n = false := by
        cases hq : wtN ws n with
        | false => rfl
        | true =>
          obtain ⟨v, hv, ev⟩ := wtN_iff.mp hq
          obtain ⟨j, hj⟩ := List.mem_iff_getElem?.mp hv
          exact absurd ev (hno j v (List.getElem?_eq_some_iff.mp hj).1 hj)
      rw [this] at hk
      refine vc_X 20 _ _ _ _ _ _ _ ?_
      simp only [↓v152_0, ↓v152_1, ↓v152_2, ↓v152_3, ↓v152_4, ↓v152_7, ↓v152_10, ↓v152_11, ↓v152_14, ↓v152_15, ↓v152_16, ↓v152_17, ↓v152_20, ↓v152_21, ↓v152_22, ↓v152_25, ↓v152_28, ↓v152_29, ↓qI_c, ↓qL_c, ↓qR_c, ↓pA_o, ↓qC_i, ↓qC_r, ↓oA_s, ↓gI_0, ↓gI_1, ↓gI_2, ↓gI_3, ↓gI_4, ↓gI_5, ↓gI_6, ↓gI_7, ↓gI_8, ↓gI_9, ↓gI_10, ↓gR_0, ↓gR_1, ↓gR_2, ↓gR_3, ↓gR_4, ↓gR_5, ↓gR_6, ↓gR_7, ↓gR_8, ↓gR_9, ↓gR_10, ↓sL_0, ↓sL_1, ↓sL_2, ↓sL_3, ↓sL_4, ↓sL_5, ↓sL_6, ↓sL_7, ↓sL_8, ↓sL_9, ↓sL_10, ↓rrf_si, ↓rrf_sg, ↓shO_si, ↓shO_sg, ↓shO_sr, ↓shA_si, ↓shA_sg, ↓shA_sr, ↓pAs_0, ↓pAs_i, ↓pAs_r, stk_n, stk_i, stk_l, stk_r, List.nil_append, List.cons_append, true_and, and_true, true_or, or_true, Nat.zero_add, dp_s, Nat.reduceAdd, le8_0, le8_1, le8_2, le8_3, le8_4, le8_5, le8_6, le8_7, le8_8, Classical.not_not, aT40, aT41, aT42, aT44, aT54, aT58, aT59, rT54, rT58, rT59, reduceIte, Nat.reduceEqDiff, qn_42, qn_44, true_implies, not_true_eq_false, not_false_eq_true, false_implies, le_T, nT (show ws.length < 2147483648 by omega), ↓shO_of hs.1.1, hl, Int.le_refl]
      exact hk
    | succ m ih =>
      intro i hi hno
      have hx : ws[i]? = some ws[i] := List.getElem?_eq_getElem (by omega)
      have w1 := (hw i _ hx).1
      have wl := w1.2.2.1
      refine vc_X 30 _ _ _ _ _ _ _ ?_
      simp only [↓v152_0, ↓v152_1, ↓v152_2, ↓v152_3, ↓v152_4, ↓v152_7, ↓v152_10, ↓v152_11, ↓v152_14, ↓v152_15, ↓v152_16, ↓v152_17, ↓v152_20, ↓v152_21, ↓v152_22, ↓v152_25, ↓v152_28, ↓v152_29, ↓qI_c, ↓qL_c, ↓qR_c, ↓pA_o, ↓qC_i, ↓qC_r, ↓oA_s, ↓gI_0, ↓gI_1, ↓gI_2, ↓gI_3, ↓gI_4, ↓gI_5, ↓gI_6, ↓gI_7, ↓gI_8, ↓gI_9, ↓gI_10, ↓gR_0, ↓gR_1, ↓gR_2, ↓gR_3, ↓gR_4, ↓gR_5, ↓gR_6, ↓gR_7, ↓gR_8, ↓gR_9, ↓gR_10, ↓sL_0, ↓sL_1, ↓sL_2, ↓sL_3, ↓sL_4, ↓sL_5, ↓sL_6, ↓sL_7, ↓sL_8, ↓sL_9, ↓sL_10, ↓rrf_si, ↓rrf_sg, ↓shO_si, ↓shO_sg, ↓shO_sr, ↓shA_si, ↓shA_sg, ↓shA_sr, ↓pAs_0, ↓pAs_i, ↓pAs_r, stk_n, stk_i, stk_l, stk_r, List.nil_append, List.cons_append, true_and, and_true, true_or, or_true, Nat.zero_add, dp_s, Nat.reduceAdd, le8_0, le8_1, le8_2, le8_3, le8_4, le8_5, le8_6, le8_7, le8_8, Classical.not_not, aT40, aT41, aT42, aT44, aT54, aT58, aT59, rT54, rT58, rT59, reduceIte, Nat.reduceEqDiff, qn_42, qn_44, true_implies, not_true_eq_false, not_false_eq_true, false_implies, le_T, nT (show i < 2147483648 by omega), nT (show ws.length < 2147483648 by omega), ↓shO_of hs.1.1, hl, ↓rrf_of hs.2.1.2.2.2.1, ↓shA_of hs.2.2.2.2.1.2.1, nC (show i < 2147483648 by omega), w1.1, nI_1]
      refine ⟨fun c => by omega, fun _ => ⟨inB_n (by omega) (by omega), fun c => ?_, fun c => ?_⟩⟩
      · refine ih (i + 1) (by omega) (fun j w hj hw2 => ?_)
        by_cases c2 : j = i
        · subst c2
          rw [hx] at hw2
          cases hw2
          exact fun e => c (by rw [e])
        · exact hno j w (by omega) hw2
      · rw [nI_eq (by omega) (by omega)] at c
        have : wtN ws n = true := wtN_iff.mpr ⟨_, List.mem_of_getElem? hx, c⟩
        rw [this] at hk
        exact hk
  refine xc ?_
  show X d 152 0 [some (.inr (some r)), some (.inl (nI n)), none] [] M k
  refine vc_X 20 _ _ _ _ _ _ _ ?_
  simp only [↓v152_0, ↓v152_1, ↓v152_2, ↓v152_3, ↓v152_4, ↓v152_7, ↓v152_10, ↓v152_11, ↓v152_14, ↓v152_15, ↓v152_16, ↓v152_17, ↓v152_20, ↓v152_21, ↓v152_22, ↓v152_25, ↓v152_28, ↓v152_29, ↓qI_c, ↓qL_c, ↓qR_c, ↓pA_o, ↓qC_i, ↓qC_r, ↓oA_s, ↓gI_0, ↓gI_1, ↓gI_2, ↓gI_3, ↓gI_4, ↓gI_5, ↓gI_6, ↓gI_7, ↓gI_8, ↓gI_9, ↓gI_10, ↓gR_0, ↓gR_1, ↓gR_2, ↓gR_3, ↓gR_4, ↓gR_5, ↓gR_6, ↓gR_7, ↓gR_8, ↓gR_9, ↓gR_10, ↓sL_0, ↓sL_1, ↓sL_2, ↓sL_3, ↓sL_4, ↓sL_5, ↓sL_6, ↓sL_7, ↓sL_8, ↓sL_9, ↓sL_10, ↓rrf_si, ↓rrf_sg, ↓shO_si, ↓shO_sg, ↓shO_sr, ↓shA_si, ↓shA_sg, ↓shA_sr, ↓pAs_0, ↓pAs_i, ↓pAs_r, stk_n, stk_i, stk_l, stk_r, List.nil_append, List.cons_append, true_and, and_true, true_or, or_true, Nat.zero_add, dp_s, Nat.reduceAdd, le8_0, le8_1, le8_2, le8_3, le8_4, le8_5, le8_6, le8_7, le8_8, Classical.not_not, aT40, aT41, aT42, aT44, aT54, aT58, aT59, rT54, rT58, rT59, reduceIte, Nat.reduceEqDiff, qn_42, qn_44, true_implies, not_true_eq_false, not_false_eq_true, false_implies]
  exact lop ws.length 0 (by omega) (fun j w hj => by omega)
theorem cnt_fl {P : Nat → Bool} {l : List Nat} : ∀ n, n ≤ l.length → cnt (fun k => match l[k]? with
    | some v => P v
    | none => false) n = ((l.take n).filter P).length
  | 0, _ => by simp [cnt]
  | n + 1, h => by
    have ih := cnt_fl (P := P) (l := l) n (by omega)
    show cnt _ n + (if (match l[n]? with
      | some v => P v
      | none => false) then 1 else 0) = _
    rw [ih, List.take_add_one, List.filter_append, List.length_append, List.getElem?_eq_getElem (by omega)]
    congr 1
    show (if P l[n] then 1 else 0) = (([l[n]] : List Nat).filter P).length
    by_cases c : P l[n] = true
    · rw [if_pos c, List.filter_cons_of_pos c]; rfl
    · rw [if_neg c, List.filter_cons_of_neg c]; rfl
theorem left_eq {md : Nat} {ws : List Wm} {w : Wm} {l : List Nat} (hN : NbI md ws) (h1 : l.Nodup) (h2 : ∀ n, n ∈ l ↔ w.d n = true) : (l.filter (wtN ws)).length = lfM ws w := by
  unfold lfM
  have e : ((ws.filter (fun v => w.d v.n)).map Wm.n).length = (ws.filter (fun v => w.d v.n)).length := List.length_map ..
  rw [← e]
  refine List.Perm.length_eq ((List.perm_ext_iff_of_nodup (h1.filter _) ?_).mpr (fun n => ?_))
  · refine List.pairwise_map.mpr ((hN.1.filter _).imp ?_)
    intro x y hxy
    omega
  · rw [List.mem_filter, h2, wtN_iff, List.mem_map]
    constructor
    · intro ⟨a, v, hv, ev⟩
      exact ⟨v, List.mem_filter.mpr ⟨hv, by rw [ev]; exact a⟩, ev⟩
    · intro ⟨v, hv, ev⟩
      obtain ⟨v1, v2⟩ := List.mem_filter.mp hv
      exact ⟨by rw [← ev]; exact v2, v, v1, ev⟩
theorem e151 {d : Nat} {M : Mm} {k : mQ} {r i md : Nat} {ws : List Wm} {w : Wm} (hs : RS M r) (hw : RWs M r ws) (hl : M.it r 14 = nI ws.length) (hl2 : ws.length ≤ 160) (hN : NbI md ws) (hi : ws[i]? = some w) (hk : k (some (.inl (nI (lfM ws w)))) M) : XC (d + 2) 151 [.inr (some r), .inl (nI i)] M k := by
  obtain ⟨-, ⟨l, l1, l2, l3, l4, l5⟩, -⟩ := hw i w hi
  have hil := (List.getElem?_eq_some_iff.mp hi).1
  rw [← left_eq hN l1 l2, ← List.take_length (l := l), ← cnt_fl (P := wtN ws) (l := l) l.length (Nat.le_refl _)] at hk
  have lop : ∀ m j, j + m = l.length → X (d + 1) 151 4 [some (.inr (some r)), some (.inl (nI i)), some (.inl (nI (cnt (fun k => match l[k]? with
    | some v => wtN ws v
    | none => false) j))), some (.inl (nI j))] [] M k := by
    intro m
    induction m with
    | zero =>
      intro j hj
      have e : j = l.length := by omega
      subst e
      refine vc_X 20 _ _ _ _ _ _ _ ?_
      simp only [↓v151_0, ↓v151_1, ↓v151_2, ↓v151_3, ↓v151_4, ↓v151_5, ↓v151_6, ↓v151_9, ↓v151_10, ↓v151_11, ↓v151_14, ↓v151_15, ↓v151_16, ↓v151_17, ↓v151_20, ↓v151_23, ↓v151_24, ↓v151_25, ↓v151_26, ↓v151_27, ↓v151_28, ↓v151_31, ↓v151_34, ↓v151_35, ↓v151_38, ↓v151_39, ↓v151_40, ↓v151_41, ↓v151_44, ↓v151_47, ↓v151_48, ↓qI_c, ↓qL_c, ↓qR_c, ↓pA_o, ↓qC_i, ↓qC_r, ↓oA_s, ↓gI_0, ↓gI_1, ↓gI_2, ↓gI_3, ↓gI_4, ↓gI_5, ↓gI_6, ↓gI_7, ↓gI_8, ↓gI_9, ↓gI_10, ↓gR_0, ↓gR_1, ↓gR_2, ↓gR_3, ↓gR_4, ↓gR_5, ↓gR_6, ↓gR_7, ↓gR_8, ↓gR_9, ↓gR_10, ↓sL_0, ↓sL_1, ↓sL_2, ↓sL_3, ↓sL_4, ↓sL_5, ↓sL_6, ↓sL_7, ↓sL_8, ↓sL_9, ↓sL_10, ↓rrf_si, ↓rrf_sg, ↓shO_si, ↓shO_sg, ↓shO_sr, ↓shA_si, ↓shA_sg, ↓shA_sr, ↓pAs_0, ↓pAs_i, ↓pAs_r, stk_n, stk_i, stk_l, stk_r, List.nil_append, List.cons_append, true_and, and_true, true_or, or_true, Nat.zero_add, dp_s, Nat.reduceAdd, le8_0, le8_1, le8_2, le8_3, le8_4, le8_5, le8_6, le8_7, le8_8, Classical.not_not, aT40, aT41, aT42, aT44, aT54, aT58, aT59, rT54, rT58, rT59, reduceIte, Nat.reduceEqDiff, qn_42, qn_44, true_implies, not_true_eq_false, not_false_eq_true, false_implies, le_T, nT (show l.length < 2147483648 by omega), ↓shO_of hs.1.1, ↓rrf_of hs.2.1.2.2.2.2.2.1, ↓shA_of hs.2.2.2.2.1.2.2.2.1, nC (show i < 2147483648 by omega), l4, Int.le_refl]
      exact ⟨inB_n (by omega) (by omega), hk⟩
    | succ m ih =>
      intro j hj
      have hx : l[j]? = some l[j] := List.getElem?_eq_getElem (by omega)
      obtain ⟨q1, q2⟩ := l5 j _ hx
      have e3 : (200 : Int32) * nI i + nI j = nI (200 * i + j) := by rw [n_200, pk_mul, nI_add]
      have ih1 := ih (j + 1) (by omega)
      have e1 : cnt (fun k => match l[k]? with
        | some v => wtN ws v
        | none => false) (j + 1) = cnt (fun k => match l[k]? with
        | some v => wtN ws v
        | none => false) j + (if wtN ws l[j] then 1 else 0) := by
        show _ + (if (match l[j]? with
          | some v => wtN ws v
          | none => false) then 1 else 0) = _
        rw [hx]
      rw [e1] at ih1
      refine vc_X 30 _ _ _ _ _ _ _ ?_
      simp only [↓v151_0, ↓v151_1, ↓v151_2, ↓v151_3, ↓v151_4, ↓v151_5, ↓v151_6, ↓v151_9, ↓v151_10, ↓v151_11, ↓v151_14, ↓v151_15, ↓v151_16, ↓v151_17, ↓v151_20, ↓v151_23, ↓v151_24, ↓v151_25, ↓v151_26, ↓v151_27, ↓v151_28, ↓v151_31, ↓v151_34, ↓v151_35, ↓v151_38, ↓v151_39, ↓v151_40, ↓v151_41, ↓v151_44, ↓v151_47, ↓v151_48, ↓qI_c, ↓qL_c, ↓qR_c, ↓pA_o, ↓qC_i, ↓qC_r, ↓oA_s, ↓gI_0, ↓gI_1, ↓gI_2, ↓gI_3, ↓gI_4, ↓gI_5, ↓gI_6, ↓gI_7, ↓gI_8, ↓gI_9, ↓gI_10, ↓gR_0, ↓gR_1, ↓gR_2, ↓gR_3, ↓gR_4, ↓gR_5, ↓gR_6, ↓gR_7, ↓gR_8, ↓gR_9, ↓gR_10, ↓sL_0, ↓sL_1, ↓sL_2, ↓sL_3, ↓sL_4, ↓sL_5, ↓sL_6, ↓sL_7, ↓sL_8, ↓sL_9, ↓sL_10, ↓rrf_si, ↓rrf_sg, ↓shO_si, ↓shO_sg, ↓shO_sr, ↓shA_si, ↓shA_sg, ↓shA_sr, ↓pAs_0, ↓pAs_i, ↓pAs_r, stk_n, stk_i, stk_l, stk_r, List.nil_append, List.cons_append, true_and, and_true, true_or, or_true, Nat.zero_add, dp_s, Nat.reduceAdd, le8_0, le8_1, le8_2, le8_3, le8_4, le8_5, le8_6, le8_7, le8_8, Classical.not_not, aT40, aT41, aT42, aT44, aT54, aT58, aT59, rT54, rT58, rT59, reduceIte, Nat.reduceEqDiff, qn_42, qn_44, true_implies, not_true_eq_false, not_false_eq_true, false_implies, le_T, nT (show j < 2147483648 by omega), nT (show l.length < 2147483648 by omega), ↓shO_of hs.1.1, ↓rrf_of hs.2.1.2.2.2.2.2.1, ↓shA_of hs.2.2.2.2.1.2.2.2.1, nC (show i < 2147483648 by omega), l4, ↓rrf_of hs.2.1.2.2.2.2.2.2.1, ↓shA_of hs.2.2.2.2.1.2.2.2.2.1, e3, nC (show 200 * i + j < 2147483648 by omega), q1]
      refine ⟨inB_n (by omega) (by omega), fun c => by omega, fun _ => ⟨inB_n (by omega) (by omega), ?_⟩⟩
      refine e152 hs hw hl hl2 q2 ⟨_, rfl, ?_⟩
      cases hwt : wtN ws l[j] with
      | true =>
        rw [hwt] at ih1
        refine vc_X 20 _ _ _ _ _ _ _ ?_
        simp only [↓v151_0, ↓v151_1, ↓v151_2, ↓v151_3, ↓v151_4, ↓v151_5, ↓v151_6, ↓v151_9, ↓v151_10, ↓v151_11, ↓v151_14, ↓v151_15, ↓v151_16, ↓v151_17, ↓v151_20, ↓v151_23, ↓v151_24, ↓v151_25, ↓v151_26, ↓v151_27, ↓v151_28, ↓v151_31, ↓v151_34, ↓v151_35, ↓v151_38, ↓v151_39, ↓v151_40, ↓v151_41, ↓v151_44, ↓v151_47, ↓v151_48, ↓qI_c, ↓qL_c, ↓qR_c, ↓pA_o, ↓qC_i, ↓qC_r, ↓oA_s, ↓gI_0, ↓gI_1, ↓gI_2, ↓gI_3, ↓gI_4, ↓gI_5, ↓gI_6, ↓gI_7, ↓gI_8, ↓gI_9, ↓gI_10, ↓gR_0, ↓gR_1, ↓gR_2, ↓gR_3, ↓gR_4, ↓gR_5, ↓gR_6, ↓gR_7, ↓gR_8, ↓gR_9, ↓gR_10, ↓sL_0, ↓sL_1, ↓sL_2, ↓sL_3, ↓sL_4, ↓sL_5, ↓sL_6, ↓sL_7, ↓sL_8, ↓sL_9, ↓sL_10, ↓rrf_si, ↓rrf_sg, ↓shO_si, ↓shO_sg, ↓shO_sr, ↓shA_si, ↓shA_sg, ↓shA_sr, ↓pAs_0, ↓pAs_i, ↓pAs_r, stk_n, stk_i, stk_l, stk_r, List.nil_append, List.cons_append, true_and, and_true, true_or, or_true, Nat.zero_add, dp_s, Nat.reduceAdd, le8_0, le8_1, le8_2, le8_3, le8_4, le8_5, le8_6, le8_7, le8_8, Classical.not_not, aT40, aT41, aT42, aT44, aT54, aT58, aT59, rT54, rT58, rT59, reduceIte, Nat.reduceEqDiff, qn_42, qn_44, true_implies, not_true_eq_false, not_false_eq_true, false_implies, bI_t, i10, nI_1]
        exact ih1
      | false =>
        rw [hwt] at ih1
        have z0 : ∀ n, nI n + 0 = nI n := fun n => by rw [n_0, nI_add]; rfl
        refine vc_X 20 _ _ _ _ _ _ _ ?_
        simp only [↓v151_0, ↓v151_1, ↓v151_2, ↓v151_3, ↓v151_4, ↓v151_5, ↓v151_6, ↓v151_9, ↓v151_10, ↓v151_11, ↓v151_14, ↓v151_15, ↓v151_16, ↓v151_17, ↓v151_20, ↓v151_23, ↓v151_24, ↓v151_25, ↓v151_26, ↓v151_27, ↓v151_28, ↓v151_31, ↓v151_34, ↓v151_35, ↓v151_38, ↓v151_39, ↓v151_40, ↓v151_41, ↓v151_44, ↓v151_47, ↓v151_48, ↓qI_c, ↓qL_c, ↓qR_c, ↓pA_o, ↓qC_i, ↓qC_r, ↓oA_s, ↓gI_0, ↓gI_1, ↓gI_2, ↓gI_3, ↓gI_4, ↓gI_5, ↓gI_6, ↓gI_7, ↓gI_8, ↓gI_9, ↓gI_10, ↓gR_0, ↓gR_1, ↓gR_2, ↓gR_3, ↓gR_4, ↓gR_5, ↓gR_6, ↓gR_7, ↓gR_8, ↓gR_9, ↓gR_10, ↓sL_0, ↓sL_1, ↓sL_2, ↓sL_3, ↓sL_4, ↓sL_5, ↓sL_6, ↓sL_7, ↓sL_8, ↓sL_9, ↓sL_10, ↓rrf_si, ↓rrf_sg, ↓shO_si, ↓shO_sg, ↓shO_sr, ↓shA_si, ↓shA_sg, ↓shA_sr, ↓pAs_0, ↓pAs_i, ↓pAs_r, stk_n, stk_i, stk_l, stk_r, List.nil_append, List.cons_append, true_and, and_true, true_or, or_true, Nat.zero_add, dp_s, Nat.reduceAdd, le8_0, le8_1, le8_2, le8_3, le8_4, le8_5, le8_6, le8_7, le8_8, Classical.not_not, aT40, aT41, aT42, aT44, aT54, aT58, aT59, rT54, rT58, rT59, reduceIte, Nat.reduceEqDiff, qn_42, qn_44, true_implies, not_true_eq_false, not_false_eq_true, false_implies, bI_f, i00, nI_1, z0]
        exact ih1
  refine xc ?_
  show X (d + 1) 151 0 [some (.inr (some r)), some (.inl (nI i)), none, none] [] M k
  refine vc_X 20 _ _ _ _ _ _ _ ?_
  simp only [↓v151_0, ↓v151_1, ↓v151_2, ↓v151_3, ↓v151_4, ↓v151_5, ↓v151_6, ↓v151_9, ↓v151_10, ↓v151_11, ↓v151_14, ↓v151_15, ↓v151_16, ↓v151_17, ↓v151_20, ↓v151_23, ↓v151_24, ↓v151_25, ↓v151_26, ↓v151_27, ↓v151_28, ↓v151_31, ↓v151_34, ↓v151_35, ↓v151_38, ↓v151_39, ↓v151_40, ↓v151_41, ↓v151_44, ↓v151_47, ↓v151_48, ↓qI_c, ↓qL_c, ↓qR_c, ↓pA_o, ↓qC_i, ↓qC_r, ↓oA_s, ↓gI_0, ↓gI_1, ↓gI_2, ↓gI_3, ↓gI_4, ↓gI_5, ↓gI_6, ↓gI_7, ↓gI_8, ↓gI_9, ↓gI_10, ↓gR_0, ↓gR_1, ↓gR_2, ↓gR_3, ↓gR_4, ↓gR_5, ↓gR_6, ↓gR_7, ↓gR_8, ↓gR_9, ↓gR_10, ↓sL_0, ↓sL_1, ↓sL_2, ↓sL_3, ↓sL_4, ↓sL_5, ↓sL_6, ↓sL_7, ↓sL_8, ↓sL_9, ↓sL_10, ↓rrf_si, ↓rrf_sg, ↓shO_si, ↓shO_sg, ↓shO_sr, ↓shA_si, ↓shA_sg, ↓shA_sr, ↓pAs_0, ↓pAs_i, ↓pAs_r, stk_n, stk_i, stk_l, stk_r, List.nil_append, List.cons_append, true_and, and_true, true_or, or_true, Nat.zero_add, dp_s, Nat.reduceAdd, le8_0, le8_1, le8_2, le8_3, le8_4, le8_5, le8_6, le8_7, le8_8, Classical.not_not, aT40, aT41, aT42, aT44, aT54, aT58, aT59, rT54, rT58, rT59, reduceIte, Nat.reduceEqDiff, qn_42, qn_44, true_implies, not_true_eq_false, not_false_eq_true, false_implies]
  exact lop l.length 0 (by omega)
