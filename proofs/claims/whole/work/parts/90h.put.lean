/-! put -/
theorem c44 {d c : Nat} {M : Mm} {k : mQ} {b : Nat} {s : Ms} {x n : Int32} (h : CM M b s) (hi : IvS c s) (hc : c < 512) (hk : ∀ M', CM M' b (mPut x n s).2 → Fr b M M' → k (some (.inl (mPut x n s).1)) M') : XC (d + 6) 44 [.inr (some b), .inl x, .inl n] M k := by
  have h0 := h
  obtain ⟨D, pm, ws, im, G, a, h, r⟩ := h
  have f18 : M.it b 18 = bI s.off := h.f18
  have f17 : M.it b 17 = nI s.mu := h.f17
  have hm : s.mu ≤ c := hi.2.2.1.2.2.2.1
  have hT0 := h.2.2.2.2.2.2.1
  have hT : BC M (b + 267) (b + 268) 200 (s.tp.map nI) := hT0.1
  have hl : s.tp.length ≤ 200 := hi.2.2.2.2.2.2.1.1
  have htc : M.it (b + 267) 1 = nI s.tp.length := by rw [hT.2.1, List.length_map]
  refine xc ?_
  show X (d + 5) 44 0 [some (.inr (some b)), some (.inl x), some (.inl n), none] [] M k
  have no : (keyOf x = none ∨ s.off = true ∨ n.toInt < 0 ∨ 100 < n.toInt ∨ (s.tp.length : Int) < n.toInt) → k (some (.inl (-1))) M := by
    intro hn
    have e : mPut x n s = (-1, s) := by
      unfold mPut
      cases hx : keyOf x with
      | none => rfl
      | some j =>
        rcases hn with hn | hn
        · rw [hx] at hn; cases hn
        · exact if_pos hn
    rw [e] at hk
    exact hk M h0 Fr.rf_
  cases ho : s.off with
  | true =>
    rw [ho, bI_t] at f18
    refine vc_X 20 _ _ _ _ _ _ _ ?_
    simp only [↓v44_0, ↓v44_1, ↓v44_4, ↓v44_7, ↓v44_8, ↓v44_11, ↓v44_14, ↓v44_15, ↓v44_18, ↓v44_19, ↓v44_21, ↓v44_24, ↓v44_25, ↓v44_26, ↓v44_29, ↓v44_32, ↓v44_35, ↓v44_36, ↓v44_39, ↓v44_42, ↓v44_45, ↓v44_46, ↓v44_47, ↓v44_48, ↓v44_51, ↓v44_54, ↓v44_55, ↓v44_58, ↓v44_59, ↓v44_62, ↓v44_63, ↓v44_66, ↓v44_67, ↓v44_70, ↓v44_73, ↓v44_74, ↓v44_77, ↓v44_78, ↓v44_79, ↓v44_82, ↓v44_83, ↓v44_86, ↓v44_89, ↓v44_90, ↓v44_93, ↓v44_94, ↓v44_95, ↓v44_98, ↓v44_99, ↓v44_102, ↓v44_104, ↓v44_105, ↓v44_106, ↓v44_109, ↓v44_110, ↓v44_113, ↓v44_116, ↓v44_118, ↓v44_119, ↓v44_120, ↓v44_123, ↓v44_126, ↓v44_127, ↓v44_128, ↓v44_129, ↓v44_130, ↓v44_131, ↓v44_134, ↓v44_137, ↓v44_138, ↓v44_139, ↓v44_142, ↓v44_143, ↓v44_144, ↓v44_147, ↓v44_148, ↓v44_151, ↓qI_c, ↓qL_c, ↓qR_c, ↓pA_o, ↓qC_i, ↓qC_r, ↓oA_s, ↓gI_0, ↓gI_1, ↓gI_2, ↓gI_3, ↓gI_4, ↓gI_5, ↓gI_6, ↓gI_7, ↓gI_8, ↓gI_9, ↓gI_10, ↓gR_0, ↓gR_1, ↓gR_2, ↓gR_3, ↓gR_4, ↓gR_5, ↓gR_6, ↓gR_7, ↓gR_8, ↓gR_9, ↓gR_10, ↓sL_0, ↓sL_1, ↓sL_2, ↓sL_3, ↓sL_4, ↓sL_5, ↓sL_6, ↓sL_7, ↓sL_8, ↓sL_9, ↓sL_10, ↓rrf_si, ↓rrf_sg, ↓shO_si, ↓shO_sg, ↓shO_sr, ↓shA_si, ↓shA_sg, ↓shA_sr, ↓pAs_0, ↓pAs_i, ↓pAs_r, stk_n, stk_i, stk_l, stk_r, List.nil_append, List.cons_append, true_and, and_true, true_or, or_true, Nat.zero_add, dp_s, Nat.reduceAdd, le8_0, le8_1, le8_2, le8_3, le8_4, le8_5, le8_6, le8_7, le8_8, Classical.not_not, aT40, aT41, aT42, aT44, aT54, aT58, aT59, rT54, rT58, rT59, reduceIte, Nat.reduceEqDiff, qn_42, qn_44, true_implies, not_true_eq_false, not_false_eq_true, false_implies, ↓shO_of h.1.1.1, f18, i10]
    exact no (Or.inr (Or.inl ho))
  | false =>
    rw [ho, bI_f] at f18
    refine vc_X 20 _ _ _ _ _ _ _ ?_
    simp only [↓v44_0, ↓v44_1, ↓v44_4, ↓v44_7, ↓v44_8, ↓v44_11, ↓v44_14, ↓v44_15, ↓v44_18, ↓v44_19, ↓v44_21, ↓v44_24, ↓v44_25, ↓v44_26, ↓v44_29, ↓v44_32, ↓v44_35, ↓v44_36, ↓v44_39, ↓v44_42, ↓v44_45, ↓v44_46, ↓v44_47, ↓v44_48, ↓v44_51, ↓v44_54, ↓v44_55, ↓v44_58, ↓v44_59, ↓v44_62, ↓v44_63, ↓v44_66, ↓v44_67, ↓v44_70, ↓v44_73, ↓v44_74, ↓v44_77, ↓v44_78, ↓v44_79, ↓v44_82, ↓v44_83, ↓v44_86, ↓v44_89, ↓v44_90, ↓v44_93, ↓v44_94, ↓v44_95, ↓v44_98, ↓v44_99, ↓v44_102, ↓v44_104, ↓v44_105, ↓v44_106, ↓v44_109, ↓v44_110, ↓v44_113, ↓v44_116, ↓v44_118, ↓v44_119, ↓v44_120, ↓v44_123, ↓v44_126, ↓v44_127, ↓v44_128, ↓v44_129, ↓v44_130, ↓v44_131, ↓v44_134, ↓v44_137, ↓v44_138, ↓v44_139, ↓v44_142, ↓v44_143, ↓v44_144, ↓v44_147, ↓v44_148, ↓v44_151, ↓qI_c, ↓qL_c, ↓qR_c, ↓pA_o, ↓qC_i, ↓qC_r, ↓oA_s, ↓gI_0, ↓gI_1, ↓gI_2, ↓gI_3, ↓gI_4, ↓gI_5, ↓gI_6, ↓gI_7, ↓gI_8, ↓gI_9, ↓gI_10, ↓gR_0, ↓gR_1, ↓gR_2, ↓gR_3, ↓gR_4, ↓gR_5, ↓gR_6, ↓gR_7, ↓gR_8, ↓gR_9, ↓gR_10, ↓sL_0, ↓sL_1, ↓sL_2, ↓sL_3, ↓sL_4, ↓sL_5, ↓sL_6, ↓sL_7, ↓sL_8, ↓sL_9, ↓sL_10, ↓rrf_si, ↓rrf_sg, ↓shO_si, ↓shO_sg, ↓shO_sr, ↓shA_si, ↓shA_sg, ↓shA_sr, ↓pAs_0, ↓pAs_i, ↓pAs_r, stk_n, stk_i, stk_l, stk_r, List.nil_append, List.cons_append, true_and, and_true, true_or, or_true, Nat.zero_add, dp_s, Nat.reduceAdd, le8_0, le8_1, le8_2, le8_3, le8_4, le8_5, le8_6, le8_7, le8_8, Classical.not_not, aT40, aT41, aT42, aT44, aT54, aT58, aT59, rT54, rT58, rT59, reduceIte, Nat.reduceEqDiff, qn_42, qn_44, true_implies, not_true_eq_false, not_false_eq_true, false_implies, ↓shO_of h.1.1.1, f18, i00]
    refine k39 (fun hin => ⟨1, rfl, ?_⟩) (fun hin => ⟨0, rfl, ?_⟩)
    swap
    · refine vc_X 20 _ _ _ _ _ _ _ ?_
      simp only [↓v44_0, ↓v44_1, ↓v44_4, ↓v44_7, ↓v44_8, ↓v44_11, ↓v44_14, ↓v44_15, ↓v44_18, ↓v44_19, ↓v44_21, ↓v44_24, ↓v44_25, ↓v44_26, ↓v44_29, ↓v44_32, ↓v44_35, ↓v44_36, ↓v44_39, ↓v44_42, ↓v44_45, ↓v44_46, ↓v44_47, ↓v44_48, ↓v44_51, ↓v44_54, ↓v44_55, ↓v44_58, ↓v44_59, ↓v44_62, ↓v44_63, ↓v44_66, ↓v44_67, ↓v44_70, ↓v44_73, ↓v44_74, ↓v44_77, ↓v44_78, ↓v44_79, ↓v44_82, ↓v44_83, ↓v44_86, ↓v44_89, ↓v44_90, ↓v44_93, ↓v44_94, ↓v44_95, ↓v44_98, ↓v44_99, ↓v44_102, ↓v44_104, ↓v44_105, ↓v44_106, ↓v44_109, ↓v44_110, ↓v44_113, ↓v44_116, ↓v44_118, ↓v44_119, ↓v44_120, ↓v44_123, ↓v44_126, ↓v44_127, ↓v44_128, ↓v44_129, ↓v44_130, ↓v44_131, ↓v44_134, ↓v44_137, ↓v44_138, ↓v44_139, ↓v44_142, ↓v44_143, ↓v44_144, ↓v44_147, ↓v44_148, ↓v44_151, ↓qI_c, ↓qL_c, ↓qR_c, ↓pA_o, ↓qC_i, ↓qC_r, ↓oA_s, ↓gI_0, ↓gI_1, ↓gI_2, ↓gI_3, ↓gI_4, ↓gI_5, ↓gI_6, ↓gI_7, ↓gI_8, ↓gI_9, ↓gI_10, ↓gR_0, ↓gR_1, ↓gR_2, ↓gR_3, ↓gR_4, ↓gR_5, ↓gR_6, ↓gR_7, ↓gR_8, ↓gR_9, ↓gR_10, ↓sL_0, ↓sL_1, ↓sL_2, ↓sL_3, ↓sL_4, ↓sL_5, ↓sL_6, ↓sL_7, ↓sL_8, ↓sL_9, ↓sL_10, ↓rrf_si, ↓rrf_sg, ↓shO_si, ↓shO_sg, ↓shO_sr, ↓shA_si, ↓shA_sg, ↓shA_sr, ↓pAs_0, ↓pAs_i, ↓pAs_r, stk_n, stk_i, stk_l, stk_r, List.nil_append, List.cons_append, true_and, and_true, true_or, or_true, Nat.zero_add, dp_s, Nat.reduceAdd, le8_0, le8_1, le8_2, le8_3, le8_4, le8_5, le8_6, le8_7, le8_8, Classical.not_not, aT40, aT41, aT42, aT44, aT54, aT58, aT59, rT54, rT58, rT59, reduceIte, Nat.reduceEqDiff, qn_42, qn_44, true_implies, not_true_eq_false, not_false_eq_true, false_implies, i00]
      exact no (Or.inl (keyOf_no hin))
    obtain ⟨j, hj, rfl⟩ := inB_of hin (by omega)
    have hx := keyOf_n hj
    refine vc_X 40 _ _ _ _ _ _ _ ?_
    simp only [↓v44_0, ↓v44_1, ↓v44_4, ↓v44_7, ↓v44_8, ↓v44_11, ↓v44_14, ↓v44_15, ↓v44_18, ↓v44_19, ↓v44_21, ↓v44_24, ↓v44_25, ↓v44_26, ↓v44_29, ↓v44_32, ↓v44_35, ↓v44_36, ↓v44_39, ↓v44_42, ↓v44_45, ↓v44_46, ↓v44_47, ↓v44_48, ↓v44_51, ↓v44_54, ↓v44_55, ↓v44_58, ↓v44_59, ↓v44_62, ↓v44_63, ↓v44_66, ↓v44_67, ↓v44_70, ↓v44_73, ↓v44_74, ↓v44_77, ↓v44_78, ↓v44_79, ↓v44_82, ↓v44_83, ↓v44_86, ↓v44_89, ↓v44_90, ↓v44_93, ↓v44_94, ↓v44_95, ↓v44_98, ↓v44_99, ↓v44_102, ↓v44_104, ↓v44_105, ↓v44_106, ↓v44_109, ↓v44_110, ↓v44_113, ↓v44_116, ↓v44_118, ↓v44_119, ↓v44_120, ↓v44_123, ↓v44_126, ↓v44_127, ↓v44_128, ↓v44_129, ↓v44_130, ↓v44_131, ↓v44_134, ↓v44_137, ↓v44_138, ↓v44_139, ↓v44_142, ↓v44_143, ↓v44_144, ↓v44_147, ↓v44_148, ↓v44_151, ↓qI_c, ↓qL_c, ↓qR_c, ↓pA_o, ↓qC_i, ↓qC_r, ↓oA_s, ↓gI_0, ↓gI_1, ↓gI_2, ↓gI_3, ↓gI_4, ↓gI_5, ↓gI_6, ↓gI_7, ↓gI_8, ↓gI_9, ↓gI_10, ↓gR_0, ↓gR_1, ↓gR_2, ↓gR_3, ↓gR_4, ↓gR_5, ↓gR_6, ↓gR_7, ↓gR_8, ↓gR_9, ↓gR_10, ↓sL_0, ↓sL_1, ↓sL_2, ↓sL_3, ↓sL_4, ↓sL_5, ↓sL_6, ↓sL_7, ↓sL_8, ↓sL_9, ↓sL_10, ↓rrf_si, ↓rrf_sg, ↓shO_si, ↓shO_sg, ↓shO_sr, ↓shA_si, ↓shA_sg, ↓shA_sr, ↓pAs_0, ↓pAs_i, ↓pAs_r, stk_n, stk_i, stk_l, stk_r, List.nil_append, List.cons_append, true_and, and_true, true_or, or_true, Nat.zero_add, dp_s, Nat.reduceAdd, le8_0, le8_1, le8_2, le8_3, le8_4, le8_5, le8_6, le8_7, le8_8, Classical.not_not, aT40, aT41, aT42, aT44, aT54, aT58, aT59, rT54, rT58, rT59, reduceIte, Nat.reduceEqDiff, qn_42, qn_44, true_implies, not_true_eq_false, not_false_eq_true, false_implies, i10, lt_T, le_T, T_0, T_100, T_512, ↓shO_of h.1.1.1, ↓rrf_of h.1.2.1.1, ↓shO_of hT.1.1, htc, f17, nT (show s.tp.length < 2147483648 by omega), nT (show s.mu < 2147483648 by omega), ↓rrf_of h.1.2.1.2.2.1]
    fail
