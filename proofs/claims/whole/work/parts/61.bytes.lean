/-! Bytes: a row of bytes. BC: at a, with its cells at c, room N; it holds l -/
def By (M : Mm) (a c N : Nat) : Prop := M.sh a = some (1, 0) ∧ M.rf a 0 = some c ∧ M.sh c = some (41, N) ∧ N < 100000
def BC (M : Mm) (a c N : Nat) (l : List Int32) : Prop := By M a c N ∧ M.it a 1 = nI l.length ∧ l.length ≤ N ∧ ∀ j v, l[j]? = some v → M.it c j = v
theorem By.ne {M : Mm} {a c N : Nat} (h : By M a c N) : a ≠ c := by
  obtain ⟨h1, -, h3, -⟩ := h
  intro e
  rw [e, h3] at h1
  cases h1
theorem By.keep {M M' : Mm} {A : List Nat} {a c N : Nat} (h : By M a c N) (o : On A M M') : By M' a c N := by
  obtain ⟨h1, h2, h3, h4⟩ := h
  exact ⟨by rw [o.1]; exact h1, by rw [o.2.2.2.2.1]; exact h2, by rw [o.1]; exact h3, h4⟩
theorem BC.keep {M M' : Mm} {A : List Nat} {a c N : Nat} {l : List Int32} (h : BC M a c N l) (o : On A M M') (ha : a ∉ A) (hc : c ∉ A) : BC M' a c N l := by
  obtain ⟨h1, h2, h3, h4⟩ := h
  exact ⟨h1.keep o, by rw [o.2.2.2.2.2 a ha]; exact h2, h3, fun j v hj => by rw [o.2.2.2.2.2 c hc]; exact h4 j v hj⟩
theorem k36 {d : Nat} {M : Mm} {k : mQ} {a c N : Nat} {l : List Int32} {i : Int32} (h : BC M a c N l) (h1 : ∀ j v, i = nI j → l[j]? = some v → k (some (.inl v)) M) (h0 : ¬ inB i l.length → k (some (.inl (-1))) M) : XC (d + 1) 36 [.inr (some a), .inl i] M k := by
  obtain ⟨⟨b1, b2, b3, b4⟩, h2, h3, h4⟩ := h
  refine xc ?_
  show X d 36 0 [some (.inr (some a)), some (.inl i)] [] M k
  refine vc_X 20 _ _ _ _ _ _ _ ?_
  simp only [↓v36_0, ↓v36_1, ↓v36_4, ↓v36_5, ↓v36_6, ↓v36_9, ↓v36_12, ↓v36_13, ↓v36_16, ↓v36_17, ↓v36_18, ↓v36_21, ↓v36_22, ↓qI_c, ↓qL_c, ↓qR_c, ↓pA_o, ↓qC_i, ↓qC_r, ↓oA_s, ↓gI_0, ↓gI_1, ↓gI_2, ↓gI_3, ↓gI_4, ↓gI_5, ↓gI_6, ↓gI_7, ↓gI_8, ↓gI_9, ↓gI_10, ↓gR_0, ↓gR_1, ↓gR_2, ↓gR_3, ↓gR_4, ↓gR_5, ↓gR_6, ↓gR_7, ↓gR_8, ↓gR_9, ↓gR_10, ↓sL_0, ↓sL_1, ↓sL_2, ↓sL_3, ↓sL_4, ↓sL_5, ↓sL_6, ↓sL_7, ↓sL_8, ↓sL_9, ↓sL_10, ↓rrf_si, ↓rrf_sg, ↓shO_si, ↓shO_sg, ↓shO_sr, ↓shA_si, ↓shA_sg, ↓shA_sr, ↓pAs_0, ↓pAs_i, ↓pAs_r, stk_n, stk_i, stk_l, stk_r, List.nil_append, List.cons_append, true_and, and_true, true_or, or_true, Nat.zero_add, dp_s, Nat.reduceAdd, le8_0, le8_1, le8_2, le8_3, le8_4, le8_5, le8_6, le8_7, le8_8, Classical.not_not, aT40, aT41, aT42, aT44, aT54, aT58, aT59, rT54, rT58, rT59, reduceIte, Nat.reduceEqDiff, qn_42, qn_44, true_implies, not_true_eq_false, not_false_eq_true, false_implies, ↓shO_of b1, ↓rrf_of b2, ↓shA_of b3, h2, lt_T, le_T, T_0, nT (show l.length < 2147483648 by omega)]
  refine ⟨fun c => h0 fun h => ?_, fun c => ⟨fun c2 => h0 fun h => ?_, fun c2 => ?_⟩⟩
  · have := h.1; omega
  · have := h.2; omega
  · have hi : inB i l.length := ⟨by omega, by omega⟩
    obtain ⟨j, hj, rfl⟩ := inB_of hi (by omega)
    refine ⟨inB_n (by omega) (by omega), ?_⟩
    rw [nC (by omega)]
    have hv : l[j]? = some l[j] := List.getElem?_eq_getElem hj
    rw [h4 j _ hv]
    exact h1 j _ rfl hv
theorem k32 {d : Nat} {M : Mm} {k : mQ} {a c N : Nat} (h : By M a c N) (hk : ∀ M', BC M' a c N [] → On [a] M M' → k none M') : XC (d + 1) 32 [.inr (some a)] M k := by
  obtain ⟨b1, b2, b3, b4⟩ := id h
  refine xc ?_
  show X d 32 0 [some (.inr (some a))] [] M k
  refine vc_X 20 _ _ _ _ _ _ _ ?_
  simp only [↓v32_0, ↓v32_1, ↓v32_2, ↓v32_5, ↓qI_c, ↓qL_c, ↓qR_c, ↓pA_o, ↓qC_i, ↓qC_r, ↓oA_s, ↓gI_0, ↓gI_1, ↓gI_2, ↓gI_3, ↓gI_4, ↓gI_5, ↓gI_6, ↓gI_7, ↓gI_8, ↓gI_9, ↓gI_10, ↓gR_0, ↓gR_1, ↓gR_2, ↓gR_3, ↓gR_4, ↓gR_5, ↓gR_6, ↓gR_7, ↓gR_8, ↓gR_9, ↓gR_10, ↓sL_0, ↓sL_1, ↓sL_2, ↓sL_3, ↓sL_4, ↓sL_5, ↓sL_6, ↓sL_7, ↓sL_8, ↓sL_9, ↓sL_10, ↓rrf_si, ↓rrf_sg, ↓shO_si, ↓shO_sg, ↓shO_sr, ↓shA_si, ↓shA_sg, ↓shA_sr, ↓pAs_0, ↓pAs_i, ↓pAs_r, stk_n, stk_i, stk_l, stk_r, List.nil_append, List.cons_append, true_and, and_true, true_or, or_true, Nat.zero_add, dp_s, Nat.reduceAdd, le8_0, le8_1, le8_2, le8_3, le8_4, le8_5, le8_6, le8_7, le8_8, Classical.not_not, aT40, aT41, aT42, aT44, aT54, aT58, aT59, rT54, rT58, rT59, reduceIte, Nat.reduceEqDiff, qn_42, qn_44, true_implies, not_true_eq_false, not_false_eq_true, false_implies, ↓shO_of b1]
  refine hk _ ⟨h.keep (A := [a]) (On.rf_.put (List.mem_cons_self)), ?_, Nat.zero_le _, fun j v hj => by simp at hj⟩ (On.rf_.put (List.mem_cons_self))
  rw [si_it, if_pos ⟨rfl, rfl⟩]
  rfl
theorem k33 {d : Nat} {M : Mm} {k : mQ} {a c N : Nat} {l : List Int32} {v : Int32} (h : BC M a c N l) (hl : l.length < N) (hk : ∀ M', BC M' a c N (l ++ [v &&& 255]) → On [a, c] M M' → k none M') : XC (d + 1) 33 [.inr (some a), .inl v] M k := by
  have hne := h.1.ne
  obtain ⟨hB, h2, h3, h4⟩ := h
  obtain ⟨b1, b2, b3, b4⟩ := id hB
  refine xc ?_
  show X d 33 0 [some (.inr (some a)), some (.inl v)] [] M k
  refine vc_X 40 _ _ _ _ _ _ _ ?_
  simp only [↓v33_0, ↓v33_1, ↓v33_4, ↓v33_5, ↓v33_8, ↓v33_9, ↓v33_12, ↓v33_13, ↓v33_16, ↓v33_17, ↓v33_20, ↓v33_21, ↓v33_24, ↓v33_25, ↓v33_26, ↓v33_27, ↓v33_28, ↓v33_31, ↓v33_32, ↓v33_33, ↓v33_36, ↓qI_c, ↓qL_c, ↓qR_c, ↓pA_o, ↓qC_i, ↓qC_r, ↓oA_s, ↓gI_0, ↓gI_1, ↓gI_2, ↓gI_3, ↓gI_4, ↓gI_5, ↓gI_6, ↓gI_7, ↓gI_8, ↓gI_9, ↓gI_10, ↓gR_0, ↓gR_1, ↓gR_2, ↓gR_3, ↓gR_4, ↓gR_5, ↓gR_6, ↓gR_7, ↓gR_8, ↓gR_9, ↓gR_10, ↓sL_0, ↓sL_1, ↓sL_2, ↓sL_3, ↓sL_4, ↓sL_5, ↓sL_6, ↓sL_7, ↓sL_8, ↓sL_9, ↓sL_10, ↓rrf_si, ↓rrf_sg, ↓shO_si, ↓shO_sg, ↓shO_sr, ↓shA_si, ↓shA_sg, ↓shA_sr, ↓pAs_0, ↓pAs_i, ↓pAs_r, stk_n, stk_i, stk_l, stk_r, List.nil_append, List.cons_append, true_and, and_true, true_or, or_true, Nat.zero_add, dp_s, Nat.reduceAdd, le8_0, le8_1, le8_2, le8_3, le8_4, le8_5, le8_6, le8_7, le8_8, Classical.not_not, aT40, aT41, aT42, aT44, aT54, aT58, aT59, rT54, rT58, rT59, reduceIte, Nat.reduceEqDiff, qn_42, qn_44, true_implies, not_true_eq_false, not_false_eq_true, false_implies, ↓shO_of b1, ↓rrf_of b2, ↓shA_of b3, si_it, h2, lt_T, le_T, nT (show l.length < 2147483648 by omega), nT (show N < 2147483648 by omega), nC (show l.length < 2147483648 by omega)]
  refine ⟨fun c => by omega, fun _ => ⟨inB_n hl (by omega), ?_⟩⟩
  rw [if_neg (fun q => hne q.1), nI_1]
  have o : On [a, c] M ((M.si c l.length (v &&& 255)).si a 1 (nI (l.length + 1))) := (On.rf_.put (by simp)).put (by simp)
  refine hk _ ⟨hB.keep o, ?_, by simp; omega, fun j w hj => ?_⟩ o
  · rw [si_it, if_pos ⟨rfl, rfl⟩]
    simp
  · rw [si_it, if_neg (fun q => hne q.1.symm), si_it]
    by_cases hjl : j = l.length
    · subst hjl
      simp at hj
      rw [if_pos ⟨rfl, rfl⟩, hj]
    · rw [if_neg (fun q => hjl q.2)]
      refine h4 j w ?_
      have hlt : j < (l ++ [v &&& 255]).length := (List.getElem?_eq_some_iff.mp hj).1
      simp at hlt
      rw [List.getElem?_append_left (by omega)] at hj
      exact hj
theorem k43 {d : Nat} {M : Mm} {k : mQ} {a c N : Nat} {l : List Int32} {v : Int32} (h : BC M a c N l) (hl : l.length + 2 ≤ N) (hk : ∀ M', BC M' a c N (l ++ [(v.toUInt32 >>> ((8 : Int32).toUInt32 &&& Int32.toUInt32 31)).toInt32 &&& 255, v &&& 255]) → On [a, c] M M' → k none M') : XC (d + 2) 43 [.inr (some a), .inl v] M k := by
  refine xc ?_
  show X (d + 1) 43 0 [some (.inr (some a)), some (.inl v)] [] M k
  refine vc_X 20 _ _ _ _ _ _ _ ?_
  simp only [↓v43_0, ↓v43_1, ↓v43_2, ↓v43_4, ↓v43_5, ↓v43_8, ↓v43_9, ↓v43_10, ↓v43_13, ↓qI_c, ↓qL_c, ↓qR_c, ↓pA_o, ↓qC_i, ↓qC_r, ↓oA_s, ↓gI_0, ↓gI_1, ↓gI_2, ↓gI_3, ↓gI_4, ↓gI_5, ↓gI_6, ↓gI_7, ↓gI_8, ↓gI_9, ↓gI_10, ↓gR_0, ↓gR_1, ↓gR_2, ↓gR_3, ↓gR_4, ↓gR_5, ↓gR_6, ↓gR_7, ↓gR_8, ↓gR_9, ↓gR_10, ↓sL_0, ↓sL_1, ↓sL_2, ↓sL_3, ↓sL_4, ↓sL_5, ↓sL_6, ↓sL_7, ↓sL_8, ↓sL_9, ↓sL_10, ↓rrf_si, ↓rrf_sg, ↓shO_si, ↓shO_sg, ↓shO_sr, ↓shA_si, ↓shA_sg, ↓shA_sr, ↓pAs_0, ↓pAs_i, ↓pAs_r, stk_n, stk_i, stk_l, stk_r, List.nil_append, List.cons_append, true_and, and_true, true_or, or_true, Nat.zero_add, dp_s, Nat.reduceAdd, le8_0, le8_1, le8_2, le8_3, le8_4, le8_5, le8_6, le8_7, le8_8, Classical.not_not, aT40, aT41, aT42, aT44, aT54, aT58, aT59, rT54, rT58, rT59, reduceIte, Nat.reduceEqDiff, qn_42, qn_44, true_implies, not_true_eq_false, not_false_eq_true, false_implies, ↓shO_of h.1.1]
  refine k33 h (by omega) fun M1 h1 o1 => ⟨rfl, ?_⟩
  refine vc_X 20 _ _ _ _ _ _ _ ?_
  simp only [↓v43_0, ↓v43_1, ↓v43_2, ↓v43_4, ↓v43_5, ↓v43_8, ↓v43_9, ↓v43_10, ↓v43_13, ↓qI_c, ↓qL_c, ↓qR_c, ↓pA_o, ↓qC_i, ↓qC_r, ↓oA_s, ↓gI_0, ↓gI_1, ↓gI_2, ↓gI_3, ↓gI_4, ↓gI_5, ↓gI_6, ↓gI_7, ↓gI_8, ↓gI_9, ↓gI_10, ↓gR_0, ↓gR_1, ↓gR_2, ↓gR_3, ↓gR_4, ↓gR_5, ↓gR_6, ↓gR_7, ↓gR_8, ↓gR_9, ↓gR_10, ↓sL_0, ↓sL_1, ↓sL_2, ↓sL_3, ↓sL_4, ↓sL_5, ↓sL_6, ↓sL_7, ↓sL_8, ↓sL_9, ↓sL_10, ↓rrf_si, ↓rrf_sg, ↓shO_si, ↓shO_sg, ↓shO_sr, ↓shA_si, ↓shA_sg, ↓shA_sr, ↓pAs_0, ↓pAs_i, ↓pAs_r, stk_n, stk_i, stk_l, stk_r, List.nil_append, List.cons_append, true_and, and_true, true_or, or_true, Nat.zero_add, dp_s, Nat.reduceAdd, le8_0, le8_1, le8_2, le8_3, le8_4, le8_5, le8_6, le8_7, le8_8, Classical.not_not, aT40, aT41, aT42, aT44, aT54, aT58, aT59, rT54, rT58, rT59, reduceIte, Nat.reduceEqDiff, qn_42, qn_44, true_implies, not_true_eq_false, not_false_eq_true, false_implies, ↓shO_of h1.1.1]
  refine k33 h1 (by simp; omega) fun M2 h2 o2 => ⟨rfl, ?_⟩
  refine vc_X 20 _ _ _ _ _ _ _ ?_
  simp only [↓v43_0, ↓v43_1, ↓v43_2, ↓v43_4, ↓v43_5, ↓v43_8, ↓v43_9, ↓v43_10, ↓v43_13, ↓qI_c, ↓qL_c, ↓qR_c, ↓pA_o, ↓qC_i, ↓qC_r, ↓oA_s, ↓gI_0, ↓gI_1, ↓gI_2, ↓gI_3, ↓gI_4, ↓gI_5, ↓gI_6, ↓gI_7, ↓gI_8, ↓gI_9, ↓gI_10, ↓gR_0, ↓gR_1, ↓gR_2, ↓gR_3, ↓gR_4, ↓gR_5, ↓gR_6, ↓gR_7, ↓gR_8, ↓gR_9, ↓gR_10, ↓sL_0, ↓sL_1, ↓sL_2, ↓sL_3, ↓sL_4, ↓sL_5, ↓sL_6, ↓sL_7, ↓sL_8, ↓sL_9, ↓sL_10, ↓rrf_si, ↓rrf_sg, ↓shO_si, ↓shO_sg, ↓shO_sr, ↓shA_si, ↓shA_sg, ↓shA_sr, ↓pAs_0, ↓pAs_i, ↓pAs_r, stk_n, stk_i, stk_l, stk_r, List.nil_append, List.cons_append, true_and, and_true, true_or, or_true, Nat.zero_add, dp_s, Nat.reduceAdd, le8_0, le8_1, le8_2, le8_3, le8_4, le8_5, le8_6, le8_7, le8_8, Classical.not_not, aT40, aT41, aT42, aT44, aT54, aT58, aT59, rT54, rT58, rT59, reduceIte, Nat.reduceEqDiff, qn_42, qn_44, true_implies, not_true_eq_false, not_false_eq_true, false_implies]
  rw [List.append_assoc] at h2
  exact hk M2 h2 (o1.trans o2 (fun x h => h))
theorem k42 {d : Nat} {M : Mm} {k : mQ} {a c N : Nat} {l : List Int32} {v : Int32} (h : BC M a c N l) (hl : l.length + 4 ≤ N) (hk : ∀ M', BC M' a c N (l ++ [((v.toUInt32 >>> ((16 : Int32).toUInt32 &&& Int32.toUInt32 31)).toInt32.toUInt32 >>> ((8 : Int32).toUInt32 &&& Int32.toUInt32 31)).toInt32 &&& 255, (v.toUInt32 >>> ((16 : Int32).toUInt32 &&& Int32.toUInt32 31)).toInt32 &&& 255, (v.toUInt32 >>> ((8 : Int32).toUInt32 &&& Int32.toUInt32 31)).toInt32 &&& 255, v &&& 255]) → On [a, c] M M' → k none M') : XC (d + 3) 42 [.inr (some a), .inl v] M k := by
  refine xc ?_
  show X (d + 2) 42 0 [some (.inr (some a)), some (.inl v)] [] M k
  refine vc_X 20 _ _ _ _ _ _ _ ?_
  simp only [↓v42_0, ↓v42_1, ↓v42_2, ↓v42_4, ↓v42_5, ↓v42_8, ↓v42_9, ↓v42_10, ↓v42_13, ↓qI_c, ↓qL_c, ↓qR_c, ↓pA_o, ↓qC_i, ↓qC_r, ↓oA_s, ↓gI_0, ↓gI_1, ↓gI_2, ↓gI_3, ↓gI_4, ↓gI_5, ↓gI_6, ↓gI_7, ↓gI_8, ↓gI_9, ↓gI_10, ↓gR_0, ↓gR_1, ↓gR_2, ↓gR_3, ↓gR_4, ↓gR_5, ↓gR_6, ↓gR_7, ↓gR_8, ↓gR_9, ↓gR_10, ↓sL_0, ↓sL_1, ↓sL_2, ↓sL_3, ↓sL_4, ↓sL_5, ↓sL_6, ↓sL_7, ↓sL_8, ↓sL_9, ↓sL_10, ↓rrf_si, ↓rrf_sg, ↓shO_si, ↓shO_sg, ↓shO_sr, ↓shA_si, ↓shA_sg, ↓shA_sr, ↓pAs_0, ↓pAs_i, ↓pAs_r, stk_n, stk_i, stk_l, stk_r, List.nil_append, List.cons_append, true_and, and_true, true_or, or_true, Nat.zero_add, dp_s, Nat.reduceAdd, le8_0, le8_1, le8_2, le8_3, le8_4, le8_5, le8_6, le8_7, le8_8, Classical.not_not, aT40, aT41, aT42, aT44, aT54, aT58, aT59, rT54, rT58, rT59, reduceIte, Nat.reduceEqDiff, qn_42, qn_44, true_implies, not_true_eq_false, not_false_eq_true, false_implies, ↓shO_of h.1.1]
  refine k43 h (by omega) fun M1 h1 o1 => ⟨rfl, ?_⟩
  refine vc_X 20 _ _ _ _ _ _ _ ?_
  simp only [↓v42_0, ↓v42_1, ↓v42_2, ↓v42_4, ↓v42_5, ↓v42_8, ↓v42_9, ↓v42_10, ↓v42_13, ↓qI_c, ↓qL_c, ↓qR_c, ↓pA_o, ↓qC_i, ↓qC_r, ↓oA_s, ↓gI_0, ↓gI_1, ↓gI_2, ↓gI_3, ↓gI_4, ↓gI_5, ↓gI_6, ↓gI_7, ↓gI_8, ↓gI_9, ↓gI_10, ↓gR_0, ↓gR_1, ↓gR_2, ↓gR_3, ↓gR_4, ↓gR_5, ↓gR_6, ↓gR_7, ↓gR_8, ↓gR_9, ↓gR_10, ↓sL_0, ↓sL_1, ↓sL_2, ↓sL_3, ↓sL_4, ↓sL_5, ↓sL_6, ↓sL_7, ↓sL_8, ↓sL_9, ↓sL_10, ↓rrf_si, ↓rrf_sg, ↓shO_si, ↓shO_sg, ↓shO_sr, ↓shA_si, ↓shA_sg, ↓shA_sr, ↓pAs_0, ↓pAs_i, ↓pAs_r, stk_n, stk_i, stk_l, stk_r, List.nil_append, List.cons_append, true_and, and_true, true_or, or_true, Nat.zero_add, dp_s, Nat.reduceAdd, le8_0, le8_1, le8_2, le8_3, le8_4, le8_5, le8_6, le8_7, le8_8, Classical.not_not, aT40, aT41, aT42, aT44, aT54, aT58, aT59, rT54, rT58, rT59, reduceIte, Nat.reduceEqDiff, qn_42, qn_44, true_implies, not_true_eq_false, not_false_eq_true, false_implies, ↓shO_of h1.1.1]
  refine k43 h1 (by simp; omega) fun M2 h2 o2 => ⟨rfl, ?_⟩
  refine vc_X 20 _ _ _ _ _ _ _ ?_
  simp only [↓v42_0, ↓v42_1, ↓v42_2, ↓v42_4, ↓v42_5, ↓v42_8, ↓v42_9, ↓v42_10, ↓v42_13, ↓qI_c, ↓qL_c, ↓qR_c, ↓pA_o, ↓qC_i, ↓qC_r, ↓oA_s, ↓gI_0, ↓gI_1, ↓gI_2, ↓gI_3, ↓gI_4, ↓gI_5, ↓gI_6, ↓gI_7, ↓gI_8, ↓gI_9, ↓gI_10, ↓gR_0, ↓gR_1, ↓gR_2, ↓gR_3, ↓gR_4, ↓gR_5, ↓gR_6, ↓gR_7, ↓gR_8, ↓gR_9, ↓gR_10, ↓sL_0, ↓sL_1, ↓sL_2, ↓sL_3, ↓sL_4, ↓sL_5, ↓sL_6, ↓sL_7, ↓sL_8, ↓sL_9, ↓sL_10, ↓rrf_si, ↓rrf_sg, ↓shO_si, ↓shO_sg, ↓shO_sr, ↓shA_si, ↓shA_sg, ↓shA_sr, ↓pAs_0, ↓pAs_i, ↓pAs_r, stk_n, stk_i, stk_l, stk_r, List.nil_append, List.cons_append, true_and, and_true, true_or, or_true, Nat.zero_add, dp_s, Nat.reduceAdd, le8_0, le8_1, le8_2, le8_3, le8_4, le8_5, le8_6, le8_7, le8_8, Classical.not_not, aT40, aT41, aT42, aT44, aT54, aT58, aT59, rT54, rT58, rT59, reduceIte, Nat.reduceEqDiff, qn_42, qn_44, true_implies, not_true_eq_false, not_false_eq_true, false_implies]
  rw [List.append_assoc] at h2
  exact hk M2 h2 (o1.trans o2 (fun x h => h))
