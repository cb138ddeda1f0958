/-- the record of a reclaim, and the note of it -/
theorem tail83 {d e own n : Nat} {k : mQ} {b : Nat} {s3 : Ms} {M0 M4 : Mm} {z3 z4 z5 : Option mL} (h : CM M4 b s3) (hw : WI s3) (he : e < 8) (hz : b + 303 ≤ M4.sz) (hown : own ≤ s3.ws.length) (hn : s3.ws.length < 120) (hm : s3.md + 1 < 1000000) (hr : s3.la.1 + 1 < 100000) (hlw : ∀ n, s3.lw = some n → n < s3.md) (oA : Of (fun y => b ≤ y ∧ y < b + 279) M0 M4)
    (hk : ∀ M', CM M' b (mkR own (some e) (sEm (some e) s3)) → Fr b M0 M' → k (some (.inl (nI n))) M') : X (d + 7) 83 194 [some (.inr (some b)), some (.inl (nI e)), some (.inl (nI n)), z3, z4, z5] [.inl (nI own)] M4 k := by
  obtain ⟨D, pm, ws, im, G, a, h, r⟩ := h
  have hL : LaC M4 (b + 251) (b + 252) s3.pt s3.op := h.2.2.2.2.1
  refine vc_X 20 _ _ _ _ _ _ _ ?_
  simp only [↓v83_0, ↓v83_1, ↓v83_4, ↓v83_7, ↓v83_8, ↓v83_11, ↓v83_14, ↓v83_15, ↓v83_16, ↓v83_19, ↓v83_22, ↓v83_25, ↓v83_26, ↓v83_29, ↓v83_30, ↓v83_33, ↓v83_36, ↓v83_37, ↓v83_38, ↓v83_39, ↓v83_40, ↓v83_43, ↓v83_44, ↓v83_45, ↓v83_46, ↓v83_47, ↓v83_48, ↓v83_51, ↓v83_52, ↓v83_54, ↓v83_57, ↓v83_58, ↓v83_59, ↓v83_62, ↓v83_63, ↓v83_66, ↓v83_67, ↓v83_68, ↓v83_71, ↓v83_74, ↓v83_77, ↓v83_80, ↓v83_81, ↓v83_84, ↓v83_85, ↓v83_88, ↓v83_91, ↓v83_94, ↓v83_97, ↓v83_98, ↓v83_101, ↓v83_102, ↓v83_105, ↓v83_108, ↓v83_109, ↓v83_112, ↓v83_113, ↓v83_114, ↓v83_115, ↓v83_116, ↓v83_117, ↓v83_120, ↓v83_122, ↓v83_124, ↓v83_125, ↓v83_128, ↓v83_130, ↓v83_131, ↓v83_132, ↓v83_135, ↓v83_137, ↓v83_138, ↓v83_139, ↓v83_142, ↓v83_145, ↓v83_147, ↓v83_148, ↓v83_149, ↓v83_151, ↓v83_153, ↓v83_154, ↓v83_157, ↓v83_159, ↓v83_161, ↓v83_164, ↓v83_165, ↓v83_166, ↓v83_169, ↓v83_171, ↓v83_172, ↓v83_175, ↓v83_178, ↓v83_181, ↓v83_182, ↓v83_185, ↓v83_186, ↓v83_187, ↓v83_190, ↓v83_193, ↓v83_194, ↓v83_196, ↓v83_197, ↓v83_200, ↓v83_201, ↓v83_204, ↓v83_205, ↓v83_207, ↓v83_208, ↓v83_211, ↓v83_212, ↓v83_215, ↓v83_216, ↓v83_217, ↓v83_220, ↓v83_221, ↓v83_222, ↓qI_c, ↓qL_c, ↓qR_c, ↓pA_o, ↓qC_i, ↓qC_r, ↓oA_s, ↓gI_0, ↓gI_1, ↓gI_2, ↓gI_3, ↓gI_4, ↓gI_5, ↓gI_6, ↓gI_7, ↓gI_8, ↓gI_9, ↓gI_10, ↓gR_0, ↓gR_1, ↓gR_2, ↓gR_3, ↓gR_4, ↓gR_5, ↓gR_6, ↓gR_7, ↓gR_8, ↓gR_9, ↓gR_10, ↓sL_0, ↓sL_1, ↓sL_2, ↓sL_3, ↓sL_4, ↓sL_5, ↓sL_6, ↓sL_7, ↓sL_8, ↓sL_9, ↓sL_10, ↓rrf_si, ↓rrf_sg, ↓shO_si, ↓shO_sg, ↓shO_sr, ↓shA_si, ↓shA_sg, ↓shA_sr, ↓pAs_0, ↓pAs_i, ↓pAs_r, stk_n, stk_i, stk_l, stk_r, List.nil_append, List.cons_append, true_and, and_true, true_or, or_true, Nat.zero_add, dp_s, Nat.reduceAdd, le8_0, le8_1, le8_2, le8_3, le8_4, le8_5, le8_6, le8_7, le8_8, Classical.not_not, aT40, aT41, aT42, aT44, aT54, aT58, aT59, rT54, rT58, rT59, reduceIte, Nat.reduceEqDiff, qn_42, qn_44, true_implies, not_true_eq_false, not_false_eq_true, false_implies, ↓shO_of h.1.1.1, ↓rrf_of h.1.1.2.2.2.2.1, ↓shO_of hL.1.1]
  refine k89 hL he (fun M5 l5 o5 => ⟨rfl, ?_⟩)
  have h5 := h.upL l5 (o5.of (fun y hy => Or.inr (by simpa using hy)))
  have cm5 : CM M5 b (sEm (some e) s3) := ⟨D, pm, ws, im, G, a, h5, r⟩
  have oA5 := oA.trans (o5.of (P := fun y => b ≤ y ∧ y < b + 279) (fun y hy => by simp at hy; omega)) (fun _ h => h)
  have eo : nI e = oI (some e) := rfl
  have z5 : M5.sz = M4.sz := o5.2.1
  have y5 : M5.sl = M4.sl := o5.2.2.1
  have y0 : M4.sl = M0.sl := oA.2.2.1
  have z0 : M4.sz = M0.sz := oA.2.1
  refine vc_X 20 _ _ _ _ _ _ _ ?_
  simp only [↓v83_0, ↓v83_1, ↓v83_4, ↓v83_7, ↓v83_8, ↓v83_11, ↓v83_14, ↓v83_15, ↓v83_16, ↓v83_19, ↓v83_22, ↓v83_25, ↓v83_26, ↓v83_29, ↓v83_30, ↓v83_33, ↓v83_36, ↓v83_37, ↓v83_38, ↓v83_39, ↓v83_40, ↓v83_43, ↓v83_44, ↓v83_45, ↓v83_46, ↓v83_47, ↓v83_48, ↓v83_51, ↓v83_52, ↓v83_54, ↓v83_57, ↓v83_58, ↓v83_59, ↓v83_62, ↓v83_63, ↓v83_66, ↓v83_67, ↓v83_68, ↓v83_71, ↓v83_74, ↓v83_77, ↓v83_80, ↓v83_81, ↓v83_84, ↓v83_85, ↓v83_88, ↓v83_91, ↓v83_94, ↓v83_97, ↓v83_98, ↓v83_101, ↓v83_102, ↓v83_105, ↓v83_108, ↓v83_109, ↓v83_112, ↓v83_113, ↓v83_114, ↓v83_115, ↓v83_116, ↓v83_117, ↓v83_120, ↓v83_122, ↓v83_124, ↓v83_125, ↓v83_128, ↓v83_130, ↓v83_131, ↓v83_132, ↓v83_135, ↓v83_137, ↓v83_138, ↓v83_139, ↓v83_142, ↓v83_145, ↓v83_147, ↓v83_148, ↓v83_149, ↓v83_151, ↓v83_153, ↓v83_154, ↓v83_157, ↓v83_159, ↓v83_161, ↓v83_164, ↓v83_165, ↓v83_166, ↓v83_169, ↓v83_171, ↓v83_172, ↓v83_175, ↓v83_178, ↓v83_181, ↓v83_182, ↓v83_185, ↓v83_186, ↓v83_187, ↓v83_190, ↓v83_193, ↓v83_194, ↓v83_196, ↓v83_197, ↓v83_200, ↓v83_201, ↓v83_204, ↓v83_205, ↓v83_207, ↓v83_208, ↓v83_211, ↓v83_212, ↓v83_215, ↓v83_216, ↓v83_217, ↓v83_220, ↓v83_221, ↓v83_222, ↓qI_c, ↓qL_c, ↓qR_c, ↓pA_o, ↓qC_i, ↓qC_r, ↓oA_s, ↓gI_0, ↓gI_1, ↓gI_2, ↓gI_3, ↓gI_4, ↓gI_5, ↓gI_6, ↓gI_7, ↓gI_8, ↓gI_9, ↓gI_10, ↓gR_0, ↓gR_1, ↓gR_2, ↓gR_3, ↓gR_4, ↓gR_5, ↓gR_6, ↓gR_7, ↓gR_8, ↓gR_9, ↓gR_10, ↓sL_0, ↓sL_1, ↓sL_2, ↓sL_3, ↓sL_4, ↓sL_5, ↓sL_6, ↓sL_7, ↓sL_8, ↓sL_9, ↓sL_10, ↓rrf_si, ↓rrf_sg, ↓shO_si, ↓shO_sg, ↓shO_sr, ↓shA_si, ↓shA_sg, ↓shA_sr, ↓pAs_0, ↓pAs_i, ↓pAs_r, stk_n, stk_i, stk_l, stk_r, List.nil_append, List.cons_append, true_and, and_true, true_or, or_true, Nat.zero_add, dp_s, Nat.reduceAdd, le8_0, le8_1, le8_2, le8_3, le8_4, le8_5, le8_6, le8_7, le8_8, Classical.not_not, aT40, aT41, aT42, aT44, aT54, aT58, aT59, rT54, rT58, rT59, reduceIte, Nat.reduceEqDiff, qn_42, qn_44, true_implies, not_true_eq_false, not_false_eq_true, false_implies, ↓shO_of h5.1.1.1]
  rw [eo]
  refine c78 (own := own) (e0 := some e) cm5 hw (by omega) hown hn hm (fun e' he' => by cases he'; exact he) hr hlw (fun M6 h6 z6 y6 g6 => ⟨rfl, ?_⟩)
  obtain ⟨D6, pm6, ws6, im6, G6, a6, h6, r6⟩ := h6
  have f15 : M6.it b 15 = nI s3.md := h6.f15
  have hmd : s3.md < 1000000 := by omega
  rw [← eo]
  refine vc_X 30 _ _ _ _ _ _ _ ?_
  simp only [↓v83_0, ↓v83_1, ↓v83_4, ↓v83_7, ↓v83_8, ↓v83_11, ↓v83_14, ↓v83_15, ↓v83_16, ↓v83_19, ↓v83_22, ↓v83_25, ↓v83_26, ↓v83_29, ↓v83_30, ↓v83_33, ↓v83_36, ↓v83_37, ↓v83_38, ↓v83_39, ↓v83_40, ↓v83_43, ↓v83_44, ↓v83_45, ↓v83_46, ↓v83_47, ↓v83_48, ↓v83_51, ↓v83_52, ↓v83_54, ↓v83_57, ↓v83_58, ↓v83_59, ↓v83_62, ↓v83_63, ↓v83_66, ↓v83_67, ↓v83_68, ↓v83_71, ↓v83_74, ↓v83_77, ↓v83_80, ↓v83_81, ↓v83_84, ↓v83_85, ↓v83_88, ↓v83_91, ↓v83_94, ↓v83_97, ↓v83_98, ↓v83_101, ↓v83_102, ↓v83_105, ↓v83_108, ↓v83_109, ↓v83_112, ↓v83_113, ↓v83_114, ↓v83_115, ↓v83_116, ↓v83_117, ↓v83_120, ↓v83_122, ↓v83_124, ↓v83_125, ↓v83_128, ↓v83_130, ↓v83_131, ↓v83_132, ↓v83_135, ↓v83_137, ↓v83_138, ↓v83_139, ↓v83_142, ↓v83_145, ↓v83_147, ↓v83_148, ↓v83_149, ↓v83_151, ↓v83_153, ↓v83_154, ↓v83_157, ↓v83_159, ↓v83_161, ↓v83_164, ↓v83_165, ↓v83_166, ↓v83_169, ↓v83_171, ↓v83_172, ↓v83_175, ↓v83_178, ↓v83_181, ↓v83_182, ↓v83_185, ↓v83_186, ↓v83_187, ↓v83_190, ↓v83_193, ↓v83_194, ↓v83_196, ↓v83_197, ↓v83_200, ↓v83_201, ↓v83_204, ↓v83_205, ↓v83_207, ↓v83_208, ↓v83_211, ↓v83_212, ↓v83_215, ↓v83_216, ↓v83_217, ↓v83_220, ↓v83_221, ↓v83_222, ↓qI_c, ↓qL_c, ↓qR_c, ↓pA_o, ↓qC_i, ↓qC_r, ↓oA_s, ↓gI_0, ↓gI_1, ↓gI_2, ↓gI_3, ↓gI_4, ↓gI_5, ↓gI_6, ↓gI_7, ↓gI_8, ↓gI_9, ↓gI_10, ↓gR_0, ↓gR_1, ↓gR_2, ↓gR_3, ↓gR_4, ↓gR_5, ↓gR_6, ↓gR_7, ↓gR_8, ↓gR_9, ↓gR_10, ↓sL_0, ↓sL_1, ↓sL_2, ↓sL_3, ↓sL_4, ↓sL_5, ↓sL_6, ↓sL_7, ↓sL_8, ↓sL_9, ↓sL_10, ↓rrf_si, ↓rrf_sg, ↓shO_si, ↓shO_sg, ↓shO_sr, ↓shA_si, ↓shA_sg, ↓shA_sr, ↓pAs_0, ↓pAs_i, ↓pAs_r, stk_n, stk_i, stk_l, stk_r, List.nil_append, List.cons_append, true_and, and_true, true_or, or_true, Nat.zero_add, dp_s, Nat.reduceAdd, le8_0, le8_1, le8_2, le8_3, le8_4, le8_5, le8_6, le8_7, le8_8, Classical.not_not, aT40, aT41, aT42, aT44, aT54, aT58, aT59, rT54, rT58, rT59, reduceIte, Nat.reduceEqDiff, qn_42, qn_44, true_implies, not_true_eq_false, not_false_eq_true, false_implies, ↓shO_of h6.1.1.1, ↓rrf_of h6.1.2.1.2.2.2.2.2.2.1, f15, ↓shA_of h6.1.2.2.1.2.2.1, nC (show e < 2147483648 by omega)]
  refine ⟨inB_n he (by omega), ?_⟩
  have o7 : On [b + 277, b + 278] M6 (M6.si (b + 277) e (nI s3.md)) := On.rf_.put (by simp)
  have hE6 := h6.2.2.2.2.2.2.2.1
  refine hk _ ⟨D6, pm6, ws6, im6, G6, a6, h6.upE (E' := (emU s3.em (some e) s3.md, s3.lo)) ⟨fun e' he' => ?_, fun j hj => ?_⟩ o7, r6⟩ ?_
  · rw [si_it]
    show _ = oI (if e' = e then some s3.md else s3.em e') ∧ ∀ n, (if e' = e then some s3.md else s3.em e') = some n → n < 1000000
    by_cases c : e' = e
    · rw [if_pos ⟨rfl, c⟩, if_pos c]
      exact ⟨rfl, fun n hn => by cases hn; exact hmd⟩
    · rw [if_neg (fun q => c q.2), if_neg c]
      exact hE6.1 e' he'
  · rw [si_it, if_neg (by simp)]
    exact hE6.2 j hj
  · refine ⟨by rw [o7.2.1]; omega, by rw [o7.2.1]; omega, by rw [o7.2.2.1]; omega, ?_⟩
    refine ((oA5.ag (R := fun y => y < M0.sz ∧ ¬ (b ≤ y ∧ y < b + 279)) (fun x hx hP => hx.2 hP)).trans g6 (fun x hx => ⟨by omega, fun hP => by unfold PQ at hP; omega⟩)).trans ((o7.of (P := fun y => b ≤ y ∧ y < b + 279) (fun y hy => by simp at hy; omega)).ag (R := fun y => ¬ (b ≤ y ∧ y < b + 279)) (fun _ h => h)) (fun x hx => hx.2)
theorem c83 {d c : Nat} {M : Mm} {k : mQ} {b : Nat} {s : Ms} {x : Int32} (h : CM M b s) (hi : IvS c s) (hc : c < 512) (hz : b + 303 ≤ M.sz) (hk : ∀ M', CM M' b (mRecl x s).2 → Fr b M M' → k (some (.inl (mRecl x s).1)) M') : XC (d + 8) 83 [.inr (some b), .inl x] M k := by
  have h0 := h
  obtain ⟨D, pm, ws, im, G, a, h, r⟩ := h
  have f18 : M.it b 18 = bI s.off := h.f18
  have hL : LaC M (b + 251) (b + 252) s.pt s.op := h.2.2.2.2.1
  have hI : IxC M (b + 255) im s.ch s.tb := h.2.2.2.2.2.1
  have hlen := r.2.2.2.1.1
  unfold mRecl at hk
  refine xc ?_
  show X (d + 7) 83 0 [some (.inr (some b)), some (.inl x), none, none, none, none] [] M k
  cases ho : s.off with
  | true =>
    rw [ho, bI_t] at f18
    refine vc_X 20 _ _ _ _ _ _ _ ?_
    simp only [↓v83_0, ↓v83_1, ↓v83_4, ↓v83_7, ↓v83_8, ↓v83_11, ↓v83_14, ↓v83_15, ↓v83_16, ↓v83_19, ↓v83_22, ↓v83_25, ↓v83_26, ↓v83_29, ↓v83_30, ↓v83_33, ↓v83_36, ↓v83_37, ↓v83_38, ↓v83_39, ↓v83_40, ↓v83_43, ↓v83_44, ↓v83_45, ↓v83_46, ↓v83_47, ↓v83_48, ↓v83_51, ↓v83_52, ↓v83_54, ↓v83_57, ↓v83_58, ↓v83_59, ↓v83_62, ↓v83_63, ↓v83_66, ↓v83_67, ↓v83_68, ↓v83_71, ↓v83_74, ↓v83_77, ↓v83_80, ↓v83_81, ↓v83_84, ↓v83_85, ↓v83_88, ↓v83_91, ↓v83_94, ↓v83_97, ↓v83_98, ↓v83_101, ↓v83_102, ↓v83_105, ↓v83_108, ↓v83_109, ↓v83_112, ↓v83_113, ↓v83_114, ↓v83_115, ↓v83_116, ↓v83_117, ↓v83_120, ↓v83_122, ↓v83_124, ↓v83_125, ↓v83_128, ↓v83_130, ↓v83_131, ↓v83_132, ↓v83_135, ↓v83_137, ↓v83_138, ↓v83_139, ↓v83_142, ↓v83_145, ↓v83_147, ↓v83_148, ↓v83_149, ↓v83_151, ↓v83_153, ↓v83_154, ↓v83_157, ↓v83_159, ↓v83_161, ↓v83_164, ↓v83_165, ↓v83_166, ↓v83_169, ↓v83_171, ↓v83_172, ↓v83_175, ↓v83_178, ↓v83_181, ↓v83_182, ↓v83_185, ↓v83_186, ↓v83_187, ↓v83_190, ↓v83_193, ↓v83_194, ↓v83_196, ↓v83_197, ↓v83_200, ↓v83_201, ↓v83_204, ↓v83_205, ↓v83_207, ↓v83_208, ↓v83_211, ↓v83_212, ↓v83_215, ↓v83_216, ↓v83_217, ↓v83_220, ↓v83_221, ↓v83_222, ↓qI_c, ↓qL_c, ↓qR_c, ↓pA_o, ↓qC_i, ↓qC_r, ↓oA_s, ↓gI_0, ↓gI_1, ↓gI_2, ↓gI_3, ↓gI_4, ↓gI_5, ↓gI_6, ↓gI_7, ↓gI_8, ↓gI_9, ↓gI_10, ↓gR_0, ↓gR_1, ↓gR_2, ↓gR_3, ↓gR_4, ↓gR_5, ↓gR_6, ↓gR_7, ↓gR_8, ↓gR_9, ↓gR_10, ↓sL_0, ↓sL_1, ↓sL_2, ↓sL_3, ↓sL_4, ↓sL_5, ↓sL_6, ↓sL_7, ↓sL_8, ↓sL_9, ↓sL_10, ↓rrf_si, ↓rrf_sg, ↓shO_si, ↓shO_sg, ↓shO_sr, ↓shA_si, ↓shA_sg, ↓shA_sr, ↓pAs_0, ↓pAs_i, ↓pAs_r, stk_n, stk_i, stk_l, stk_r, List.nil_append, List.cons_append, true_and, and_true, true_or, or_true, Nat.zero_add, dp_s, Nat.reduceAdd, le8_0, le8_1, le8_2, le8_3, le8_4, le8_5, le8_6, le8_7, le8_8, Classical.not_not, aT40, aT41, aT42, aT44, aT54, aT58, aT59, rT54, rT58, rT59, reduceIte, Nat.reduceEqDiff, qn_42, qn_44, true_implies, not_true_eq_false, not_false_eq_true, false_implies, ↓shO_of h.1.1.1, f18, i10]
    cases hx : idx x 8 with
    | none => rw [hx] at hk; exact hk M h0 Fr.rf_
    | some e =>
      rw [hx] at hk
      have hk : ∀ M', CM M' b (if s.off = true ∨ s.op = some e ∨ s.pt e = 0 then (-1, s) else mReO e s (sC (mvC s (mvK e s) s.C) s) : Int32 × Ms).2 → Fr b M M' → k (some (.inl (if s.off = true ∨ s.op = some e ∨ s.pt e = 0 then (-1, s) else mReO e s (sC (mvC s (mvK e s) s.C) s) : Int32 × Ms).1)) M' := hk
      rw [if_pos (Or.inl ho)] at hk
      exact hk M h0 Fr.rf_
  | false =>
    rw [ho, bI_f] at f18
    refine vc_X 20 _ _ _ _ _ _ _ ?_
    simp only [↓v83_0, ↓v83_1, ↓v83_4, ↓v83_7, ↓v83_8, ↓v83_11, ↓v83_14, ↓v83_15, ↓v83_16, ↓v83_19, ↓v83_22, ↓v83_25, ↓v83_26, ↓v83_29, ↓v83_30, ↓v83_33, ↓v83_36, ↓v83_37, ↓v83_38, ↓v83_39, ↓v83_40, ↓v83_43, ↓v83_44, ↓v83_45, ↓v83_46, ↓v83_47, ↓v83_48, ↓v83_51, ↓v83_52, ↓v83_54, ↓v83_57, ↓v83_58, ↓v83_59, ↓v83_62, ↓v83_63, ↓v83_66, ↓v83_67, ↓v83_68, ↓v83_71, ↓v83_74, ↓v83_77, ↓v83_80, ↓v83_81, ↓v83_84, ↓v83_85, ↓v83_88, ↓v83_91, ↓v83_94, ↓v83_97, ↓v83_98, ↓v83_101, ↓v83_102, ↓v83_105, ↓v83_108, ↓v83_109, ↓v83_112, ↓v83_113, ↓v83_114, ↓v83_115, ↓v83_116, ↓v83_117, ↓v83_120, ↓v83_122, ↓v83_124, ↓v83_125, ↓v83_128, ↓v83_130, ↓v83_131, ↓v83_132, ↓v83_135, ↓v83_137, ↓v83_138, ↓v83_139, ↓v83_142, ↓v83_145, ↓v83_147, ↓v83_148, ↓v83_149, ↓v83_151, ↓v83_153, ↓v83_154, ↓v83_157, ↓v83_159, ↓v83_161, ↓v83_164, ↓v83_165, ↓v83_166, ↓v83_169, ↓v83_171, ↓v83_172, ↓v83_175, ↓v83_178, ↓v83_181, ↓v83_182, ↓v83_185, ↓v83_186, ↓v83_187, ↓v83_190, ↓v83_193, ↓v83_194, ↓v83_196, ↓v83_197, ↓v83_200, ↓v83_201, ↓v83_204, ↓v83_205, ↓v83_207, ↓v83_208, ↓v83_211, ↓v83_212, ↓v83_215, ↓v83_216, ↓v83_217, ↓v83_220, ↓v83_221, ↓v83_222, ↓qI_c, ↓qL_c, ↓qR_c, ↓pA_o, ↓qC_i, ↓qC_r, ↓oA_s, ↓gI_0, ↓gI_1, ↓gI_2, ↓gI_3, ↓gI_4, ↓gI_5, ↓gI_6, ↓gI_7, ↓gI_8, ↓gI_9, ↓gI_10, ↓gR_0, ↓gR_1, ↓gR_2, ↓gR_3, ↓gR_4, ↓gR_5, ↓gR_6, ↓gR_7, ↓gR_8, ↓gR_9, ↓gR_10, ↓sL_0, ↓sL_1, ↓sL_2, ↓sL_3, ↓sL_4, ↓sL_5, ↓sL_6, ↓sL_7, ↓sL_8, ↓sL_9, ↓sL_10, ↓rrf_si, ↓rrf_sg, ↓shO_si, ↓shO_sg, ↓shO_sr, ↓shA_si, ↓shA_sg, ↓shA_sr, ↓pAs_0, ↓pAs_i, ↓pAs_r, stk_n, stk_i, stk_l, stk_r, List.nil_append, List.cons_append, true_and, and_true, true_or, or_true, Nat.zero_add, dp_s, Nat.reduceAdd, le8_0, le8_1, le8_2, le8_3, le8_4, le8_5, le8_6, le8_7, le8_8, Classical.not_not, aT40, aT41, aT42, aT44, aT54, aT58, aT59, rT54, rT58, rT59, reduceIte, Nat.reduceEqDiff, qn_42, qn_44, true_implies, not_true_eq_false, not_false_eq_true, false_implies, ↓shO_of h.1.1.1, f18, i00]
    refine k40 (fun hin => ⟨1, rfl, ?_⟩) (fun hin => ⟨0, rfl, ?_⟩)
    rotate_left
    · have hx : idx x 8 = none := by
        cases he : idx x 8 with
        | none => rfl
        | some j => obtain ⟨rfl, hj⟩ := idx_n he; exact absurd (inB_n hj (by omega)) hin
      rw [hx] at hk
      refine vc_X 20 _ _ _ _ _ _ _ ?_
      simp only [↓v83_0, ↓v83_1, ↓v83_4, ↓v83_7, ↓v83_8, ↓v83_11, ↓v83_14, ↓v83_15, ↓v83_16, ↓v83_19, ↓v83_22, ↓v83_25, ↓v83_26, ↓v83_29, ↓v83_30, ↓v83_33, ↓v83_36, ↓v83_37, ↓v83_38, ↓v83_39, ↓v83_40, ↓v83_43, ↓v83_44, ↓v83_45, ↓v83_46, ↓v83_47, ↓v83_48, ↓v83_51, ↓v83_52, ↓v83_54, ↓v83_57, ↓v83_58, ↓v83_59, ↓v83_62, ↓v83_63, ↓v83_66, ↓v83_67, ↓v83_68, ↓v83_71, ↓v83_74, ↓v83_77, ↓v83_80, ↓v83_81, ↓v83_84, ↓v83_85, ↓v83_88, ↓v83_91, ↓v83_94, ↓v83_97, ↓v83_98, ↓v83_101, ↓v83_102, ↓v83_105, ↓v83_108, ↓v83_109, ↓v83_112, ↓v83_113, ↓v83_114, ↓v83_115, ↓v83_116, ↓v83_117, ↓v83_120, ↓v83_122, ↓v83_124, ↓v83_125, ↓v83_128, ↓v83_130, ↓v83_131, ↓v83_132, ↓v83_135, ↓v83_137, ↓v83_138, ↓v83_139, ↓v83_142, ↓v83_145, ↓v83_147, ↓v83_148, ↓v83_149, ↓v83_151, ↓v83_153, ↓v83_154, ↓v83_157, ↓v83_159, ↓v83_161, ↓v83_164, ↓v83_165, ↓v83_166, ↓v83_169, ↓v83_171, ↓v83_172, ↓v83_175, ↓v83_178, ↓v83_181, ↓v83_182, ↓v83_185, ↓v83_186, ↓v83_187, ↓v83_190, ↓v83_193, ↓v83_194, ↓v83_196, ↓v83_197, ↓v83_200, ↓v83_201, ↓v83_204, ↓v83_205, ↓v83_207, ↓v83_208, ↓v83_211, ↓v83_212, ↓v83_215, ↓v83_216, ↓v83_217, ↓v83_220, ↓v83_221, ↓v83_222, ↓qI_c, ↓qL_c, ↓qR_c, ↓pA_o, ↓qC_i, ↓qC_r, ↓oA_s, ↓gI_0, ↓gI_1, ↓gI_2, ↓gI_3, ↓gI_4, ↓gI_5, ↓gI_6, ↓gI_7, ↓gI_8, ↓gI_9, ↓gI_10, ↓gR_0, ↓gR_1, ↓gR_2, ↓gR_3, ↓gR_4, ↓gR_5, ↓gR_6, ↓gR_7, ↓gR_8, ↓gR_9, ↓gR_10, ↓sL_0, ↓sL_1, ↓sL_2, ↓sL_3, ↓sL_4, ↓sL_5, ↓sL_6, ↓sL_7, ↓sL_8, ↓sL_9, ↓sL_10, ↓rrf_si, ↓rrf_sg, ↓shO_si, ↓shO_sg, ↓shO_sr, ↓shA_si, ↓shA_sg, ↓shA_sr, ↓pAs_0, ↓pAs_i, ↓pAs_r, stk_n, stk_i, stk_l, stk_r, List.nil_append, List.cons_append, true_and, and_true, true_or, or_true, Nat.zero_add, dp_s, Nat.reduceAdd, le8_0, le8_1, le8_2, le8_3, le8_4, le8_5, le8_6, le8_7, le8_8, Classical.not_not, aT40, aT41, aT42, aT44, aT54, aT58, aT59, rT54, rT58, rT59, reduceIte, Nat.reduceEqDiff, qn_42, qn_44, true_implies, not_true_eq_false, not_false_eq_true, false_implies, i00]
      exact hk M h0 Fr.rf_
    obtain ⟨e, he, rfl⟩ := inB_of hin (by omega)
    rw [idx_of he (by omega)] at hk
    have hk : ∀ M', CM M' b (if s.off = true ∨ s.op = some e ∨ s.pt e = 0 then (-1, s) else mReO e s (sC (mvC s (mvK e s) s.C) s) : Int32 × Ms).2 → Fr b M M' → k (some (.inl (if s.off = true ∨ s.op = some e ∨ s.pt e = 0 then (-1, s) else mReO e s (sC (mvC s (mvK e s) s.C) s) : Int32 × Ms).1)) M' := hk
    by_cases c1 : s.op = some e
    · rw [if_pos (Or.inr (Or.inl c1))] at hk
      have hop : M.it (b + 251) 1 = nI e := by rw [hL.2.2.1, c1]; rfl
      refine vc_X 20 _ _ _ _ _ _ _ ?_
      simp only [↓v83_0, ↓v83_1, ↓v83_4, ↓v83_7, ↓v83_8, ↓v83_11, ↓v83_14, ↓v83_15, ↓v83_16, ↓v83_19, ↓v83_22, ↓v83_25, ↓v83_26, ↓v83_29, ↓v83_30, ↓v83_33, ↓v83_36, ↓v83_37, ↓v83_38, ↓v83_39, ↓v83_40, ↓v83_43, ↓v83_44, ↓v83_45, ↓v83_46, ↓v83_47, ↓v83_48, ↓v83_51, ↓v83_52, ↓v83_54, ↓v83_57, ↓v83_58, ↓v83_59, ↓v83_62, ↓v83_63, ↓v83_66, ↓v83_67, ↓v83_68, ↓v83_71, ↓v83_74, ↓v83_77, ↓v83_80, ↓v83_81, ↓v83_84, ↓v83_85, ↓v83_88, ↓v83_91, ↓v83_94, ↓v83_97, ↓v83_98, ↓v83_101, ↓v83_102, ↓v83_105, ↓v83_108, ↓v83_109, ↓v83_112, ↓v83_113, ↓v83_114, ↓v83_115, ↓v83_116, ↓v83_117, ↓v83_120, ↓v83_122, ↓v83_124, ↓v83_125, ↓v83_128, ↓v83_130, ↓v83_131, ↓v83_132, ↓v83_135, ↓v83_137, ↓v83_138, ↓v83_139, ↓v83_142, ↓v83_145, ↓v83_147, ↓v83_148, ↓v83_149, ↓v83_151, ↓v83_153, ↓v83_154, ↓v83_157, ↓v83_159, ↓v83_161, ↓v83_164, ↓v83_165, ↓v83_166, ↓v83_169, ↓v83_171, ↓v83_172, ↓v83_175, ↓v83_178, ↓v83_181, ↓v83_182, ↓v83_185, ↓v83_186, ↓v83_187, ↓v83_190, ↓v83_193, ↓v83_194, ↓v83_196, ↓v83_197, ↓v83_200, ↓v83_201, ↓v83_204, ↓v83_205, ↓v83_207, ↓v83_208, ↓v83_211, ↓v83_212, ↓v83_215, ↓v83_216, ↓v83_217, ↓v83_220, ↓v83_221, ↓v83_222, ↓qI_c, ↓qL_c, ↓qR_c, ↓pA_o, ↓qC_i, ↓qC_r, ↓oA_s, ↓gI_0, ↓gI_1, ↓gI_2, ↓gI_3, ↓gI_4, ↓gI_5, ↓gI_6, ↓gI_7, ↓gI_8, ↓gI_9, ↓gI_10, ↓gR_0, ↓gR_1, ↓gR_2, ↓gR_3, ↓gR_4, ↓gR_5, ↓gR_6, ↓gR_7, ↓gR_8, ↓gR_9, ↓gR_10, ↓sL_0, ↓sL_1, ↓sL_2, ↓sL_3, ↓sL_4, ↓sL_5, ↓sL_6, ↓sL_7, ↓sL_8, ↓sL_9, ↓sL_10, ↓rrf_si, ↓rrf_sg, ↓shO_si, ↓shO_sg, ↓shO_sr, ↓shA_si, ↓shA_sg, ↓shA_sr, ↓pAs_0, ↓pAs_i, ↓pAs_r, stk_n, stk_i, stk_l, stk_r, List.nil_append, List.cons_append, true_and, and_true, true_or, or_true, Nat.zero_add, dp_s, Nat.reduceAdd, le8_0, le8_1, le8_2, le8_3, le8_4, le8_5, le8_6, le8_7, le8_8, Classical.not_not, aT40, aT41, aT42, aT44, aT54, aT58, aT59, rT54, rT58, rT59, reduceIte, Nat.reduceEqDiff, qn_42, qn_44, true_implies, not_true_eq_false, not_false_eq_true, false_implies, i10, ↓shO_of h.1.1.1, ↓rrf_of h.1.1.2.2.2.2.1, ↓shO_of hL.1.1, hop]
      exact hk M h0 Fr.rf_
    · have hop : (nI e = M.it (b + 251) 1) = False := eq_false (fun q => by
        rw [hL.2.2.1] at q
        cases hs : s.op with
        | none =>
          rw [hs] at q
          have q : nI e = -1 := q
          rw [nI_nm (by omega) (by decide)] at q
          exact q
        | some e2 =>
          rw [hs] at q
          have h8 := hL.2.2.2 e2 hs
          have q : nI e = nI e2 := q
          rw [nI_eq (by omega) (by omega)] at q
          exact c1 (by rw [hs, q]))
      refine vc_X 20 _ _ _ _ _ _ _ ?_
      simp only [↓v83_0, ↓v83_1, ↓v83_4, ↓v83_7, ↓v83_8, ↓v83_11, ↓v83_14, ↓v83_15, ↓v83_16, ↓v83_19, ↓v83_22, ↓v83_25, ↓v83_26, ↓v83_29, ↓v83_30, ↓v83_33, ↓v83_36, ↓v83_37, ↓v83_38, ↓v83_39, ↓v83_40, ↓v83_43, ↓v83_44, ↓v83_45, ↓v83_46, ↓v83_47, ↓v83_48, ↓v83_51, ↓v83_52, ↓v83_54, ↓v83_57, ↓v83_58, ↓v83_59, ↓v83_62, ↓v83_63, ↓v83_66, ↓v83_67, ↓v83_68, ↓v83_71, ↓v83_74, ↓v83_77, ↓v83_80, ↓v83_81, ↓v83_84, ↓v83_85, ↓v83_88, ↓v83_91, ↓v83_94, ↓v83_97, ↓v83_98, ↓v83_101, ↓v83_102, ↓v83_105, ↓v83_108, ↓v83_109, ↓v83_112, ↓v83_113, ↓v83_114, ↓v83_115, ↓v83_116, ↓v83_117, ↓v83_120, ↓v83_122, ↓v83_124, ↓v83_125, ↓v83_128, ↓v83_130, ↓v83_131, ↓v83_132, ↓v83_135, ↓v83_137, ↓v83_138, ↓v83_139, ↓v83_142, ↓v83_145, ↓v83_147, ↓v83_148, ↓v83_149, ↓v83_151, ↓v83_153, ↓v83_154, ↓v83_157, ↓v83_159, ↓v83_161, ↓v83_164, ↓v83_165, ↓v83_166, ↓v83_169, ↓v83_171, ↓v83_172, ↓v83_175, ↓v83_178, ↓v83_181, ↓v83_182, ↓v83_185, ↓v83_186, ↓v83_187, ↓v83_190, ↓v83_193, ↓v83_194, ↓v83_196, ↓v83_197, ↓v83_200, ↓v83_201, ↓v83_204, ↓v83_205, ↓v83_207, ↓v83_208, ↓v83_211, ↓v83_212, ↓v83_215, ↓v83_216, ↓v83_217, ↓v83_220, ↓v83_221, ↓v83_222, ↓qI_c, ↓qL_c, ↓qR_c, ↓pA_o, ↓qC_i, ↓qC_r, ↓oA_s, ↓gI_0, ↓gI_1, ↓gI_2, ↓gI_3, ↓gI_4, ↓gI_5, ↓gI_6, ↓gI_7, ↓gI_8, ↓gI_9, ↓gI_10, ↓gR_0, ↓gR_1, ↓gR_2, ↓gR_3, ↓gR_4, ↓gR_5, ↓gR_6, ↓gR_7, ↓gR_8, ↓gR_9, ↓gR_10, ↓sL_0, ↓sL_1, ↓sL_2, ↓sL_3, ↓sL_4, ↓sL_5, ↓sL_6, ↓sL_7, ↓sL_8, ↓sL_9, ↓sL_10, ↓rrf_si, ↓rrf_sg, ↓shO_si, ↓shO_sg, ↓shO_sr, ↓shA_si, ↓shA_sg, ↓shA_sr, ↓pAs_0, ↓pAs_i, ↓pAs_r, stk_n, stk_i, stk_l, stk_r, List.nil_append, List.cons_append, true_and, and_true, true_or, or_true, Nat.zero_add, dp_s, Nat.reduceAdd, le8_0, le8_1, le8_2, le8_3, le8_4, le8_5, le8_6, le8_7, le8_8, Classical.not_not, aT40, aT41, aT42, aT44, aT54, aT58, aT59, rT54, rT58, rT59, reduceIte, Nat.reduceEqDiff, qn_42, qn_44, true_implies, not_true_eq_false, not_false_eq_true, false_implies, i10, ↓shO_of h.1.1.1, ↓rrf_of h.1.1.2.2.2.2.1, ↓shO_of hL.1.1, hop]
      refine k49 hL he ⟨_, rfl, ?_⟩
      by_cases c2 : s.pt e = 0
      · rw [if_pos (Or.inr (Or.inr c2))] at hk
        have hem : emE s.pt s.op e = true := by
          unfold emE
          rw [c2]
          simpa using c1
        rw [hem, if_pos rfl]
        refine vc_X 20 _ _ _ _ _ _ _ ?_
        simp only [↓v83_0, ↓v83_1, ↓v83_4, ↓v83_7, ↓v83_8, ↓v83_11, ↓v83_14, ↓v83_15, ↓v83_16, ↓v83_19, ↓v83_22, ↓v83_25, ↓v83_26, ↓v83_29, ↓v83_30, ↓v83_33, ↓v83_36, ↓v83_37, ↓v83_38, ↓v83_39, ↓v83_40, ↓v83_43, ↓v83_44, ↓v83_45, ↓v83_46, ↓v83_47, ↓v83_48, ↓v83_51, ↓v83_52, ↓v83_54, ↓v83_57, ↓v83_58, ↓v83_59, ↓v83_62, ↓v83_63, ↓v83_66, ↓v83_67, ↓v83_68, ↓v83_71, ↓v83_74, ↓v83_77, ↓v83_80, ↓v83_81, ↓v83_84, ↓v83_85, ↓v83_88, ↓v83_91, ↓v83_94, ↓v83_97, ↓v83_98, ↓v83_101, ↓v83_102, ↓v83_105, ↓v83_108, ↓v83_109, ↓v83_112, ↓v83_113, ↓v83_114, ↓v83_115, ↓v83_116, ↓v83_117, ↓v83_120, ↓v83_122, ↓v83_124, ↓v83_125, ↓v83_128, ↓v83_130, ↓v83_131, ↓v83_132, ↓v83_135, ↓v83_137, ↓v83_138, ↓v83_139, ↓v83_142, ↓v83_145, ↓v83_147, ↓v83_148, ↓v83_149, ↓v83_151, ↓v83_153, ↓v83_154, ↓v83_157, ↓v83_159, ↓v83_161, ↓v83_164, ↓v83_165, ↓v83_166, ↓v83_169, ↓v83_171, ↓v83_172, ↓v83_175, ↓v83_178, ↓v83_181, ↓v83_182, ↓v83_185, ↓v83_186, ↓v83_187, ↓v83_190, ↓v83_193, ↓v83_194, ↓v83_196, ↓v83_197, ↓v83_200, ↓v83_201, ↓v83_204, ↓v83_205, ↓v83_207, ↓v83_208, ↓v83_211, ↓v83_212, ↓v83_215, ↓v83_216, ↓v83_217, ↓v83_220, ↓v83_221, ↓v83_222, ↓qI_c, ↓qL_c, ↓qR_c, ↓pA_o, ↓qC_i, ↓qC_r, ↓oA_s, ↓gI_0, ↓gI_1, ↓gI_2, ↓gI_3, ↓gI_4, ↓gI_5, ↓gI_6, ↓gI_7, ↓gI_8, ↓gI_9, ↓gI_10, ↓gR_0, ↓gR_1, ↓gR_2, ↓gR_3, ↓gR_4, ↓gR_5, ↓gR_6, ↓gR_7, ↓gR_8, ↓gR_9, ↓gR_10, ↓sL_0, ↓sL_1, ↓sL_2, ↓sL_3, ↓sL_4, ↓sL_5, ↓sL_6, ↓sL_7, ↓sL_8, ↓sL_9, ↓sL_10, ↓rrf_si, ↓rrf_sg, ↓shO_si, ↓shO_sg, ↓shO_sr, ↓shA_si, ↓shA_sg, ↓shA_sr, ↓pAs_0, ↓pAs_i, ↓pAs_r, stk_n, stk_i, stk_l, stk_r, List.nil_append, List.cons_append, true_and, and_true, true_or, or_true, Nat.zero_add, dp_s, Nat.reduceAdd, le8_0, le8_1, le8_2, le8_3, le8_4, le8_5, le8_6, le8_7, le8_8, Classical.not_not, aT40, aT41, aT42, aT44, aT54, aT58, aT59, rT54, rT58, rT59, reduceIte, Nat.reduceEqDiff, qn_42, qn_44, true_implies, not_true_eq_false, not_false_eq_true, false_implies, i10]
        exact hk M h0 Fr.rf_
      · rw [if_neg (by rw [ho]; simp; exact ⟨c1, c2⟩)] at hk
        have hem : emE s.pt s.op e = false := by
          unfold emE
          rw [show (s.pt e == 0) = false from beq_eq_false_iff_ne.mpr c2, Bool.false_and]
        rw [hem, if_neg (by decide)]
        refine vc_X 20 _ _ _ _ _ _ _ ?_
        simp only [↓v83_0, ↓v83_1, ↓v83_4, ↓v83_7, ↓v83_8, ↓v83_11, ↓v83_14, ↓v83_15, ↓v83_16, ↓v83_19, ↓v83_22, ↓v83_25, ↓v83_26, ↓v83_29, ↓v83_30, ↓v83_33, ↓v83_36, ↓v83_37, ↓v83_38, ↓v83_39, ↓v83_40, ↓v83_43, ↓v83_44, ↓v83_45, ↓v83_46, ↓v83_47, ↓v83_48, ↓v83_51, ↓v83_52, ↓v83_54, ↓v83_57, ↓v83_58, ↓v83_59, ↓v83_62, ↓v83_63, ↓v83_66, ↓v83_67, ↓v83_68, ↓v83_71, ↓v83_74, ↓v83_77, ↓v83_80, ↓v83_81, ↓v83_84, ↓v83_85, ↓v83_88, ↓v83_91, ↓v83_94, ↓v83_97, ↓v83_98, ↓v83_101, ↓v83_102, ↓v83_105, ↓v83_108, ↓v83_109, ↓v83_112, ↓v83_113, ↓v83_114, ↓v83_115, ↓v83_116, ↓v83_117, ↓v83_120, ↓v83_122, ↓v83_124, ↓v83_125, ↓v83_128, ↓v83_130, ↓v83_131, ↓v83_132, ↓v83_135, ↓v83_137, ↓v83_138, ↓v83_139, ↓v83_142, ↓v83_145, ↓v83_147, ↓v83_148, ↓v83_149, ↓v83_151, ↓v83_153, ↓v83_154, ↓v83_157, ↓v83_159, ↓v83_161, ↓v83_164, ↓v83_165, ↓v83_166, ↓v83_169, ↓v83_171, ↓v83_172, ↓v83_175, ↓v83_178, ↓v83_181, ↓v83_182, ↓v83_185, ↓v83_186, ↓v83_187, ↓v83_190, ↓v83_193, ↓v83_194, ↓v83_196, ↓v83_197, ↓v83_200, ↓v83_201, ↓v83_204, ↓v83_205, ↓v83_207, ↓v83_208, ↓v83_211, ↓v83_212, ↓v83_215, ↓v83_216, ↓v83_217, ↓v83_220, ↓v83_221, ↓v83_222, ↓qI_c, ↓qL_c, ↓qR_c, ↓pA_o, ↓qC_i, ↓qC_r, ↓oA_s, ↓gI_0, ↓gI_1, ↓gI_2, ↓gI_3, ↓gI_4, ↓gI_5, ↓gI_6, ↓gI_7, ↓gI_8, ↓gI_9, ↓gI_10, ↓gR_0, ↓gR_1, ↓gR_2, ↓gR_3, ↓gR_4, ↓gR_5, ↓gR_6, ↓gR_7, ↓gR_8, ↓gR_9, ↓gR_10, ↓sL_0, ↓sL_1, ↓sL_2, ↓sL_3, ↓sL_4, ↓sL_5, ↓sL_6, ↓sL_7, ↓sL_8, ↓sL_9, ↓sL_10, ↓rrf_si, ↓rrf_sg, ↓shO_si, ↓shO_sg, ↓shO_sr, ↓shA_si, ↓shA_sg, ↓shA_sr, ↓pAs_0, ↓pAs_i, ↓pAs_r, stk_n, stk_i, stk_l, stk_r, List.nil_append, List.cons_append, true_and, and_true, true_or, or_true, Nat.zero_add, dp_s, Nat.reduceAdd, le8_0, le8_1, le8_2, le8_3, le8_4, le8_5, le8_6, le8_7, le8_8, Classical.not_not, aT40, aT41, aT42, aT44, aT54, aT58, aT59, rT54, rT58, rT59, reduceIte, Nat.reduceEqDiff, qn_42, qn_44, true_implies, not_true_eq_false, not_false_eq_true, false_implies, i00, ↓shO_of h.1.1.1]
        refine k84 (I := (im, s.I)) h he (fun M1 m1 o1 => ⟨_, rfl, ?_⟩)
        have m1 : MvC M1 b (mvK e s) := m1
        have ekl : mvP (im, s.I).2.1 (im, s.I).2.2 e 16 = mvK e s := rfl
        rw [ekl]
        have hkl : (mvK e s).length ≤ 16 := by rw [← ekl]; exact mvP_le _ _ _ _
        generalize hkeys : mvK e s = keys at *
        have hpl : ∀ key ∈ keys, key < 48 ∧ ∃ p, plO s.ch s.tb (some key) = some p ∧ p / 16 = e := by
          intro key hkey
          rw [← hkeys] at hkey
          obtain ⟨bb, hb1, hb2, hb3⟩ := mvK_mem hkey
          exact ⟨hb2, _, hb3, by omega⟩
        have h1 := h.upZn o1 (by simp [PZ])
        have hC : s.C.2 ≤ 60 * c := hi.2.2.1.2.2.2.2
        refine vc_X 20 _ _ _ _ _ _ _ ?_
        simp only [↓v83_0, ↓v83_1, ↓v83_4, ↓v83_7, ↓v83_8, ↓v83_11, ↓v83_14, ↓v83_15, ↓v83_16, ↓v83_19, ↓v83_22, ↓v83_25, ↓v83_26, ↓v83_29, ↓v83_30, ↓v83_33, ↓v83_36, ↓v83_37, ↓v83_38, ↓v83_39, ↓v83_40, ↓v83_43, ↓v83_44, ↓v83_45, ↓v83_46, ↓v83_47, ↓v83_48, ↓v83_51, ↓v83_52, ↓v83_54, ↓v83_57, ↓v83_58, ↓v83_59, ↓v83_62, ↓v83_63, ↓v83_66, ↓v83_67, ↓v83_68, ↓v83_71, ↓v83_74, ↓v83_77, ↓v83_80, ↓v83_81, ↓v83_84, ↓v83_85, ↓v83_88, ↓v83_91, ↓v83_94, ↓v83_97, ↓v83_98, ↓v83_101, ↓v83_102, ↓v83_105, ↓v83_108, ↓v83_109, ↓v83_112, ↓v83_113, ↓v83_114, ↓v83_115, ↓v83_116, ↓v83_117, ↓v83_120, ↓v83_122, ↓v83_124, ↓v83_125, ↓v83_128, ↓v83_130, ↓v83_131, ↓v83_132, ↓v83_135, ↓v83_137, ↓v83_138, ↓v83_139, ↓v83_142, ↓v83_145, ↓v83_147, ↓v83_148, ↓v83_149, ↓v83_151, ↓v83_153, ↓v83_154, ↓v83_157, ↓v83_159, ↓v83_161, ↓v83_164, ↓v83_165, ↓v83_166, ↓v83_169, ↓v83_171, ↓v83_172, ↓v83_175, ↓v83_178, ↓v83_181, ↓v83_182, ↓v83_185, ↓v83_186, ↓v83_187, ↓v83_190, ↓v83_193, ↓v83_194, ↓v83_196, ↓v83_197, ↓v83_200, ↓v83_201, ↓v83_204, ↓v83_205, ↓v83_207, ↓v83_208, ↓v83_211, ↓v83_212, ↓v83_215, ↓v83_216, ↓v83_217, ↓v83_220, ↓v83_221, ↓v83_222, ↓qI_c, ↓qL_c, ↓qR_c, ↓pA_o, ↓qC_i, ↓qC_r, ↓oA_s, ↓gI_0, ↓gI_1, ↓gI_2, ↓gI_3, ↓gI_4, ↓gI_5, ↓gI_6, ↓gI_7, ↓gI_8, ↓gI_9, ↓gI_10, ↓gR_0, ↓gR_1, ↓gR_2, ↓gR_3, ↓gR_4, ↓gR_5, ↓gR_6, ↓gR_7, ↓gR_8, ↓gR_9, ↓gR_10, ↓sL_0, ↓sL_1, ↓sL_2, ↓sL_3, ↓sL_4, ↓sL_5, ↓sL_6, ↓sL_7, ↓sL_8, ↓sL_9, ↓sL_10, ↓rrf_si, ↓rrf_sg, ↓shO_si, ↓shO_sg, ↓shO_sr, ↓shA_si, ↓shA_sg, ↓shA_sr, ↓pAs_0, ↓pAs_i, ↓pAs_r, stk_n, stk_i, stk_l, stk_r, List.nil_append, List.cons_append, true_and, and_true, true_or, or_true, Nat.zero_add, dp_s, Nat.reduceAdd, le8_0, le8_1, le8_2, le8_3, le8_4, le8_5, le8_6, le8_7, le8_8, Classical.not_not, aT40, aT41, aT42, aT44, aT54, aT58, aT59, rT54, rT58, rT59, reduceIte, Nat.reduceEqDiff, qn_42, qn_44, true_implies, not_true_eq_false, not_false_eq_true, false_implies]
        refine lopU83 hkl r hi (fun key hkey => ⟨(hpl key hkey).1, by obtain ⟨p, hp, _⟩ := (hpl key hkey).2; exact ⟨p, hp⟩⟩) keys 0 M1 s.C rfl (by omega) h1 m1 (by omega) On.rf_ (fun M2 h2 m2 o2 => ?_)
        have o1 := hi.1 ho
        have oA2 : Of (fun y => b ≤ y ∧ y < b + 279) M M2 := (On.of (P := fun y => b ≤ y ∧ y < b + 279) (by assumption) (fun y hy => by simp at hy; omega)).trans (o2.of (P := fun y => b ≤ y ∧ y < b + 279) (fun y hy => by simp at hy; omega)) (fun _ h => h)
        generalize hs1 : sC (mvC s keys s.C) s = s1 at hk
        have cm2 : ∀ M', CP M' b D (pm, s.md, ws) (mvC s keys s.C) s.L (im, s.I) s.T s.E (G, a, s.F.2) → CM M' b s1 := fun M' h' => by rw [← hs1]; exact ⟨D, pm, ws, im, G, a, h', r⟩
        have eI : mvI e s = keys.map (itK s) := by rw [mvI_eq, hkeys]
        generalize hwt : decide (keys.length ≠ 0 ∨ chN s ≠ 0 ∨ tabIn s.tb e = true) = wt
        have S : X (d + 7) 83 113 [some (.inr (some b)), some (.inl (nI e)), some (.inl (nI keys.length)), some (.inl (nI keys.length)), none, none] [.inl (bI wt)] M2 k := by
          refine vc_X 20 _ _ _ _ _ _ _ ?_
          simp only [↓v83_0, ↓v83_1, ↓v83_4, ↓v83_7, ↓v83_8, ↓v83_11, ↓v83_14, ↓v83_15, ↓v83_16, ↓v83_19, ↓v83_22, ↓v83_25, ↓v83_26, ↓v83_29, ↓v83_30, ↓v83_33, ↓v83_36, ↓v83_37, ↓v83_38, ↓v83_39, ↓v83_40, ↓v83_43, ↓v83_44, ↓v83_45, ↓v83_46, ↓v83_47, ↓v83_48, ↓v83_51, ↓v83_52, ↓v83_54, ↓v83_57, ↓v83_58, ↓v83_59, ↓v83_62, ↓v83_63, ↓v83_66, ↓v83_67, ↓v83_68, ↓v83_71, ↓v83_74, ↓v83_77, ↓v83_80, ↓v83_81, ↓v83_84, ↓v83_85, ↓v83_88, ↓v83_91, ↓v83_94, ↓v83_97, ↓v83_98, ↓v83_101, ↓v83_102, ↓v83_105, ↓v83_108, ↓v83_109, ↓v83_112, ↓v83_113, ↓v83_114, ↓v83_115, ↓v83_116, ↓v83_117, ↓v83_120, ↓v83_122, ↓v83_124, ↓v83_125, ↓v83_128, ↓v83_130, ↓v83_131, ↓v83_132, ↓v83_135, ↓v83_137, ↓v83_138, ↓v83_139, ↓v83_142, ↓v83_145, ↓v83_147, ↓v83_148, ↓v83_149, ↓v83_151, ↓v83_153, ↓v83_154, ↓v83_157, ↓v83_159, ↓v83_161, ↓v83_164, ↓v83_165, ↓v83_166, ↓v83_169, ↓v83_171, ↓v83_172, ↓v83_175, ↓v83_178, ↓v83_181, ↓v83_182, ↓v83_185, ↓v83_186, ↓v83_187, ↓v83_190, ↓v83_193, ↓v83_194, ↓v83_196, ↓v83_197, ↓v83_200, ↓v83_201, ↓v83_204, ↓v83_205, ↓v83_207, ↓v83_208, ↓v83_211, ↓v83_212, ↓v83_215, ↓v83_216, ↓v83_217, ↓v83_220, ↓v83_221, ↓v83_222, ↓qI_c, ↓qL_c, ↓qR_c, ↓pA_o, ↓qC_i, ↓qC_r, ↓oA_s, ↓gI_0, ↓gI_1, ↓gI_2, ↓gI_3, ↓gI_4, ↓gI_5, ↓gI_6, ↓gI_7, ↓gI_8, ↓gI_9, ↓gI_10, ↓gR_0, ↓gR_1, ↓gR_2, ↓gR_3, ↓gR_4, ↓gR_5, ↓gR_6, ↓gR_7, ↓gR_8, ↓gR_9, ↓gR_10, ↓sL_0, ↓sL_1, ↓sL_2, ↓sL_3, ↓sL_4, ↓sL_5, ↓sL_6, ↓sL_7, ↓sL_8, ↓sL_9, ↓sL_10, ↓rrf_si, ↓rrf_sg, ↓shO_si, ↓shO_sg, ↓shO_sr, ↓shA_si, ↓shA_sg, ↓shA_sr, ↓pAs_0, ↓pAs_i, ↓pAs_r, stk_n, stk_i, stk_l, stk_r, List.nil_append, List.cons_append, true_and, and_true, true_or, or_true, Nat.zero_add, dp_s, Nat.reduceAdd, le8_0, le8_1, le8_2, le8_3, le8_4, le8_5, le8_6, le8_7, le8_8, Classical.not_not, aT40, aT41, aT42, aT44, aT54, aT58, aT59, rT54, rT58, rT59, reduceIte, Nat.reduceEqDiff, qn_42, qn_44, true_implies, not_true_eq_false, not_false_eq_true, false_implies, ↓shO_of h2.1.1.1]
          refine k87 (Q := (pm, s.md, ws)) (I := (im, s.I)) h2 (r.ok hi) m2 hkl (fun key hkey => ⟨(hpl key hkey).1, by obtain ⟨p, hp, _⟩ := (hpl key hkey).2; exact ⟨p, hp⟩⟩) (fun M3 h3 m3 o3 => ⟨_, rfl, ?_⟩)
          have enb : keys.map (nbk D (pm, s.md, ws) (im, s.I)) = (mvI e s).map nbI := by
            rw [eI, List.map_map]
            refine List.map_congr_left (fun key hkey => ?_)
            obtain ⟨hk48, p, hpp, _⟩ := hpl key hkey
            have hplk : plK s key = p := by unfold plK; rw [hpp]; rfl
            have hp128 := plO_lt hI hk48 hpp
            show nbA D.1 ws ((plO s.ch s.tb (some key)).getD 0) = ((ctS s.V (plK s key) (lnS s.V (plK s key))).length + 23) / 16
            rw [ctS_len, hplk, hpp]
            exact r.2.2.2.1.nb_ hi.nb hi.bt r.1 hp128
          have sL : s1.L = s.L := by rw [← hs1]; rfl
          rw [enb, ← sL, trF_mvO, sumN_B]
          have cm3 := cm2 M3 h3
          have oA3 := oA2.trans o3 (fun y hy => by omega)
          have hsum := mvI_sum o1 he
          unfold mReO at hk
          cases hv : mvO (mvI e s) s1 with
          | none =>
            rw [hv] at hk
            show X _ 83 120 _ [.inl (-1)] M3 k
            refine vc_X 20 _ _ _ _ _ _ _ ?_
            simp only [↓v83_0, ↓v83_1, ↓v83_4, ↓v83_7, ↓v83_8, ↓v83_11, ↓v83_14, ↓v83_15, ↓v83_16, ↓v83_19, ↓v83_22, ↓v83_25, ↓v83_26, ↓v83_29, ↓v83_30, ↓v83_33, ↓v83_36, ↓v83_37, ↓v83_38, ↓v83_39, ↓v83_40, ↓v83_43, ↓v83_44, ↓v83_45, ↓v83_46, ↓v83_47, ↓v83_48, ↓v83_51, ↓v83_52, ↓v83_54, ↓v83_57, ↓v83_58, ↓v83_59, ↓v83_62, ↓v83_63, ↓v83_66, ↓v83_67, ↓v83_68, ↓v83_71, ↓v83_74, ↓v83_77, ↓v83_80, ↓v83_81, ↓v83_84, ↓v83_85, ↓v83_88, ↓v83_91, ↓v83_94, ↓v83_97, ↓v83_98, ↓v83_101, ↓v83_102, ↓v83_105, ↓v83_108, ↓v83_109, ↓v83_112, ↓v83_113, ↓v83_114, ↓v83_115, ↓v83_116, ↓v83_117, ↓v83_120, ↓v83_122, ↓v83_124, ↓v83_125, ↓v83_128, ↓v83_130, ↓v83_131, ↓v83_132, ↓v83_135, ↓v83_137, ↓v83_138, ↓v83_139, ↓v83_142, ↓v83_145, ↓v83_147, ↓v83_148, ↓v83_149, ↓v83_151, ↓v83_153, ↓v83_154, ↓v83_157, ↓v83_159, ↓v83_161, ↓v83_164, ↓v83_165, ↓v83_166, ↓v83_169, ↓v83_171, ↓v83_172, ↓v83_175, ↓v83_178, ↓v83_181, ↓v83_182, ↓v83_185, ↓v83_186, ↓v83_187, ↓v83_190, ↓v83_193, ↓v83_194, ↓v83_196, ↓v83_197, ↓v83_200, ↓v83_201, ↓v83_204, ↓v83_205, ↓v83_207, ↓v83_208, ↓v83_211, ↓v83_212, ↓v83_215, ↓v83_216, ↓v83_217, ↓v83_220, ↓v83_221, ↓v83_222, ↓qI_c, ↓qL_c, ↓qR_c, ↓pA_o, ↓qC_i, ↓qC_r, ↓oA_s, ↓gI_0, ↓gI_1, ↓gI_2, ↓gI_3, ↓gI_4, ↓gI_5, ↓gI_6, ↓gI_7, ↓gI_8, ↓gI_9, ↓gI_10, ↓gR_0, ↓gR_1, ↓gR_2, ↓gR_3, ↓gR_4, ↓gR_5, ↓gR_6, ↓gR_7, ↓gR_8, ↓gR_9, ↓gR_10, ↓sL_0, ↓sL_1, ↓sL_2, ↓sL_3, ↓sL_4, ↓sL_5, ↓sL_6, ↓sL_7, ↓sL_8, ↓sL_9, ↓sL_10, ↓rrf_si, ↓rrf_sg, ↓shO_si, ↓shO_sg, ↓shO_sr, ↓shA_si, ↓shA_sg, ↓shA_sr, ↓pAs_0, ↓pAs_i, ↓pAs_r, stk_n, stk_i, stk_l, stk_r, List.nil_append, List.cons_append, true_and, and_true, true_or, or_true, Nat.zero_add, dp_s, Nat.reduceAdd, le8_0, le8_1, le8_2, le8_3, le8_4, le8_5, le8_6, le8_7, le8_8, Classical.not_not, aT40, aT41, aT42, aT44, aT54, aT58, aT59, rT54, rT58, rT59, reduceIte, Nat.reduceEqDiff, qn_42, qn_44, true_implies, not_true_eq_false, not_false_eq_true, false_implies, m11]
            exact hk M3 cm3 (oA3.fr (fun _ h => h))
          | some s2 =>
            rw [hv] at hk
            have hk : ∀ M', CM M' b (mReT e s s1 s2).2 → Fr b M M' → k (some (.inl (mReT e s s1 s2).1)) M' := hk
            have os1 : On_ s1 := by rw [← hs1]; exact o1
            have hCb : (mvC s keys s.C).2 ≤ s.C.2 + 16 := by
              have q1 := mvC_le s keys s.C
              have q2 : sumB (keys.map (fun k => (k, ctS s.V (plK s k) (lnS s.V (plK s k))))) ≤ 16 := by rw [eI] at hsum; exact hsum
              omega
            have hM : BdM c 0 0 s1 := by
              rw [← hs1]
              obtain ⟨⟨a2, a3, a4, a5⟩, rr⟩ := hi.2.2.mid
              refine ⟨⟨a2, a3, a4, ?_⟩, rr⟩
              show (mvC s keys s.C).2 ≤ _
              omega
            have eqs : s1.op = s.op ∧ s1.pt = s.pt ∧ s1.ch = s.ch ∧ s1.tb = s.tb ∧ s1.ws = s.ws ∧ s1.la = s.la ∧ s1.lw = s.lw ∧ s1.V = s.V := by rw [← hs1]; exact ⟨rfl, rfl, rfl, rfl, rfl, rfl, rfl, rfl⟩
            have hio := mvI_ok o1 hi.bt (e := e)
            obtain ⟨⟨g1, g2, g3⟩, ⟨g4, g5⟩, ⟨g6, g7, -, -, -, -⟩, g8, g9, g10⟩ := mv_ok (c := c) (e0 := e) (mvI e s) 0 0 s1 s2 os1 hM hio (by rw [eqs.1]; exact c1) (by rw [eqs.2.1]; exact c2) hv
            rw [eqs.2.2.2.2.1] at g3
            have hhas : ∀ q, q < 48 → hasK s2.ch s2.tb q = hasK s.ch s.tb q := by
              intro q hq
              rw [mvO_has (mvI e s) s1 s2 (fun z hz => (hio z hz).1) hM.2.2.1.2 hv q, eqs.2.2.1, eqs.2.2.2.1]
              cases hany : (mvI e s).any (fun z => z.1 == q) with
              | false => rw [Bool.or_false]
              | true =>
                rw [Bool.or_true]
                rw [List.any_eq_true] at hany
                obtain ⟨z, hz, ez⟩ := hany
                rw [beq_iff_eq] at ez
                rw [eI] at hz
                obtain ⟨key, hkey, ek⟩ := List.mem_map.mp hz
                obtain ⟨_, p, hpp, _⟩ := hpl key hkey
                have : key = q := by rw [← ez, ← ek]; rfl
                rw [this] at hpp
                unfold hasK
                rw [hpp]
                rfl
            have etb : tbK (im, s.I) = tbB true s2 := by
              unfold tbK tbB
              rw [tbL_len]
              have e1 : nE (frS true s2.ch s2.tb) 48 = cnt (hasK s.ch s.tb) 48 := cnt_congr 48 (fun q hq => hhas q hq)
              rw [e1]
              rfl
            have hb10 := tbB_le true s2
            have hlI : (mvI e s).length ≤ 16 := by rw [eI, List.length_map]; exact hkl
            have hst : s.st ≤ 17 * c := hi.2.2.1.2.2.1
            have hmd : s.md ≤ 30 * c := hi.2.2.1.2.1
            have w2 : WI s2 := ⟨g1.1.1, g2.2.2.2.1⟩
            have hQ3 : QuC M3 (b + 7) pm s.md ws := h3.2.2.1.1
            have step3 : ∀ tot : Nat, tot < 1000 → sumB (mvI e s) ≤ tot → (¬ s.ws.length + (tot + 1) ≤ 120 → k (some (.inl (-3))) M3) → (s.ws.length + (tot + 1) ≤ 120 → ∀ M', CM M' b s2 → Of (fun y => b ≤ y ∧ y < b + 279) M M' → X (d + 7) 83 181 [some (.inr (some b)), some (.inl (nI e)), some (.inl (nI keys.length)), some (.inl (bI wt)), some (.inl (nI tot)), some (.inl (nI keys.length))] [] M' k) → X (d + 7) 83 120 [some (.inr (some b)), some (.inl (nI e)), some (.inl (nI keys.length)), some (.inl (bI wt)), none, none] [.inl (nI tot)] M3 k := by
              intro tot ht1 ht2 hno hyes
              refine vc_X 30 _ _ _ _ _ _ _ ?_
              simp only [↓v83_0, ↓v83_1, ↓v83_4, ↓v83_7, ↓v83_8, ↓v83_11, ↓v83_14, ↓v83_15, ↓v83_16, ↓v83_19, ↓v83_22, ↓v83_25, ↓v83_26, ↓v83_29, ↓v83_30, ↓v83_33, ↓v83_36, ↓v83_37, ↓v83_38, ↓v83_39, ↓v83_40, ↓v83_43, ↓v83_44, ↓v83_45, ↓v83_46, ↓v83_47, ↓v83_48, ↓v83_51, ↓v83_52, ↓v83_54, ↓v83_57, ↓v83_58, ↓v83_59, ↓v83_62, ↓v83_63, ↓v83_66, ↓v83_67, ↓v83_68, ↓v83_71, ↓v83_74, ↓v83_77, ↓v83_80, ↓v83_81, ↓v83_84, ↓v83_85, ↓v83_88, ↓v83_91, ↓v83_94, ↓v83_97, ↓v83_98, ↓v83_101, ↓v83_102, ↓v83_105, ↓v83_108, ↓v83_109, ↓v83_112, ↓v83_113, ↓v83_114, ↓v83_115, ↓v83_116, ↓v83_117, ↓v83_120, ↓v83_122, ↓v83_124, ↓v83_125, ↓v83_128, ↓v83_130, ↓v83_131, ↓v83_132, ↓v83_135, ↓v83_137, ↓v83_138, ↓v83_139, ↓v83_142, ↓v83_145, ↓v83_147, ↓v83_148, ↓v83_149, ↓v83_151, ↓v83_153, ↓v83_154, ↓v83_157, ↓v83_159, ↓v83_161, ↓v83_164, ↓v83_165, ↓v83_166, ↓v83_169, ↓v83_171, ↓v83_172, ↓v83_175, ↓v83_178, ↓v83_181, ↓v83_182, ↓v83_185, ↓v83_186, ↓v83_187, ↓v83_190, ↓v83_193, ↓v83_194, ↓v83_196, ↓v83_197, ↓v83_200, ↓v83_201, ↓v83_204, ↓v83_205, ↓v83_207, ↓v83_208, ↓v83_211, ↓v83_212, ↓v83_215, ↓v83_216, ↓v83_217, ↓v83_220, ↓v83_221, ↓v83_222, ↓qI_c, ↓qL_c, ↓qR_c, ↓pA_o, ↓qC_i, ↓qC_r, ↓oA_s, ↓gI_0, ↓gI_1, ↓gI_2, ↓gI_3, ↓gI_4, ↓gI_5, ↓gI_6, ↓gI_7, ↓gI_8, ↓gI_9, ↓gI_10, ↓gR_0, ↓gR_1, ↓gR_2, ↓gR_3, ↓gR_4, ↓gR_5, ↓gR_6, ↓gR_7, ↓gR_8, ↓gR_9, ↓gR_10, ↓sL_0, ↓sL_1, ↓sL_2, ↓sL_3, ↓sL_4, ↓sL_5, ↓sL_6, ↓sL_7, ↓sL_8, ↓sL_9, ↓sL_10, ↓rrf_si, ↓rrf_sg, ↓shO_si, ↓shO_sg, ↓shO_sr, ↓shA_si, ↓shA_sg, ↓shA_sr, ↓pAs_0, ↓pAs_i, ↓pAs_r, stk_n, stk_i, stk_l, stk_r, List.nil_append, List.cons_append, true_and, and_true, true_or, or_true, Nat.zero_add, dp_s, Nat.reduceAdd, le8_0, le8_1, le8_2, le8_3, le8_4, le8_5, le8_6, le8_7, le8_8, Classical.not_not, aT40, aT41, aT42, aT44, aT54, aT58, aT59, rT54, rT58, rT59, reduceIte, Nat.reduceEqDiff, qn_42, qn_44, true_implies, not_true_eq_false, not_false_eq_true, false_implies, nI_nm (show tot < 2147483648 by omega) (show ((-1 : Int32)).toInt < 0 by decide), ↓shO_of h3.1.1.1, ↓rrf_of h3.1.1.2.2.1, ↓shO_of hQ3.1.1, nI_1]
              refine k51 hQ3 (by omega) ⟨_, rfl, ?_⟩
              rw [hlen]
              by_cases c6 : s.ws.length + (tot + 1) ≤ 120
              · rw [if_pos c6]
                refine vc_X 20 _ _ _ _ _ _ _ ?_
                simp only [↓v83_0, ↓v83_1, ↓v83_4, ↓v83_7, ↓v83_8, ↓v83_11, ↓v83_14, ↓v83_15, ↓v83_16, ↓v83_19, ↓v83_22, ↓v83_25, ↓v83_26, ↓v83_29, ↓v83_30, ↓v83_33, ↓v83_36, ↓v83_37, ↓v83_38, ↓v83_39, ↓v83_40, ↓v83_43, ↓v83_44, ↓v83_45, ↓v83_46, ↓v83_47, ↓v83_48, ↓v83_51, ↓v83_52, ↓v83_54, ↓v83_57, ↓v83_58, ↓v83_59, ↓v83_62, ↓v83_63, ↓v83_66, ↓v83_67, ↓v83_68, ↓v83_71, ↓v83_74, ↓v83_77, ↓v83_80, ↓v83_81, ↓v83_84, ↓v83_85, ↓v83_88, ↓v83_91, ↓v83_94, ↓v83_97, ↓v83_98, ↓v83_101, ↓v83_102, ↓v83_105, ↓v83_108, ↓v83_109, ↓v83_112, ↓v83_113, ↓v83_114, ↓v83_115, ↓v83_116, ↓v83_117, ↓v83_120, ↓v83_122, ↓v83_124, ↓v83_125, ↓v83_128, ↓v83_130, ↓v83_131, ↓v83_132, ↓v83_135, ↓v83_137, ↓v83_138, ↓v83_139, ↓v83_142, ↓v83_145, ↓v83_147, ↓v83_148, ↓v83_149, ↓v83_151, ↓v83_153, ↓v83_154, ↓v83_157, ↓v83_159, ↓v83_161, ↓v83_164, ↓v83_165, ↓v83_166, ↓v83_169, ↓v83_171, ↓v83_172, ↓v83_175, ↓v83_178, ↓v83_181, ↓v83_182, ↓v83_185, ↓v83_186, ↓v83_187, ↓v83_190, ↓v83_193, ↓v83_194, ↓v83_196, ↓v83_197, ↓v83_200, ↓v83_201, ↓v83_204, ↓v83_205, ↓v83_207, ↓v83_208, ↓v83_211, ↓v83_212, ↓v83_215, ↓v83_216, ↓v83_217, ↓v83_220, ↓v83_221, ↓v83_222, ↓qI_c, ↓qL_c, ↓qR_c, ↓pA_o, ↓qC_i, ↓qC_r, ↓oA_s, ↓gI_0, ↓gI_1, ↓gI_2, ↓gI_3, ↓gI_4, ↓gI_5, ↓gI_6, ↓gI_7, ↓gI_8, ↓gI_9, ↓gI_10, ↓gR_0, ↓gR_1, ↓gR_2, ↓gR_3, ↓gR_4, ↓gR_5, ↓gR_6, ↓gR_7, ↓gR_8, ↓gR_9, ↓gR_10, ↓sL_0, ↓sL_1, ↓sL_2, ↓sL_3, ↓sL_4, ↓sL_5, ↓sL_6, ↓sL_7, ↓sL_8, ↓sL_9, ↓sL_10, ↓rrf_si, ↓rrf_sg, ↓shO_si, ↓shO_sg, ↓shO_sr, ↓shA_si, ↓shA_sg, ↓shA_sr, ↓pAs_0, ↓pAs_i, ↓pAs_r, stk_n, stk_i, stk_l, stk_r, List.nil_append, List.cons_append, true_and, and_true, true_or, or_true, Nat.zero_add, dp_s, Nat.reduceAdd, le8_0, le8_1, le8_2, le8_3, le8_4, le8_5, le8_6, le8_7, le8_8, Classical.not_not, aT40, aT41, aT42, aT44, aT54, aT58, aT59, rT54, rT58, rT59, reduceIte, Nat.reduceEqDiff, qn_42, qn_44, true_implies, not_true_eq_false, not_false_eq_true, false_implies, i10]
                refine lop83 (c := c) (n0 := 0) (M0 := M3) (keys := keys) (s := s) (s2 := s2) hkl o1 hi.bt hpl he (fun M' h' o' => hyes c6 M' h' (oA3.trans o' (fun y hy => by unfold PM PQ PX at hy; omega))) keys 0 0 0 M3 s1 rfl (by omega) (by rw [← hkeys]; exact mvK_nd e s) cm3 m3 os1 hM (by rw [← eI]; omega) (by omega) hc (by rw [eqs.2.2.2.2.1, ← eI]; omega) (by rw [eqs.1]; exact c1) (by rw [eqs.2.1]; exact c2) (fun key _ => by rw [eqs.2.2.1, eqs.2.2.2.1]) (fun q _ => by rw [eqs.2.2.2.2.2.2.2]) (by rw [← eI]; exact hv) Of.rf_
              · rw [if_neg c6]
                refine vc_X 20 _ _ _ _ _ _ _ ?_
                simp only [↓v83_0, ↓v83_1, ↓v83_4, ↓v83_7, ↓v83_8, ↓v83_11, ↓v83_14, ↓v83_15, ↓v83_16, ↓v83_19, ↓v83_22, ↓v83_25, ↓v83_26, ↓v83_29, ↓v83_30, ↓v83_33, ↓v83_36, ↓v83_37, ↓v83_38, ↓v83_39, ↓v83_40, ↓v83_43, ↓v83_44, ↓v83_45, ↓v83_46, ↓v83_47, ↓v83_48, ↓v83_51, ↓v83_52, ↓v83_54, ↓v83_57, ↓v83_58, ↓v83_59, ↓v83_62, ↓v83_63, ↓v83_66, ↓v83_67, ↓v83_68, ↓v83_71, ↓v83_74, ↓v83_77, ↓v83_80, ↓v83_81, ↓v83_84, ↓v83_85, ↓v83_88, ↓v83_91, ↓v83_94, ↓v83_97, ↓v83_98, ↓v83_101, ↓v83_102, ↓v83_105, ↓v83_108, ↓v83_109, ↓v83_112, ↓v83_113, ↓v83_114, ↓v83_115, ↓v83_116, ↓v83_117, ↓v83_120, ↓v83_122, ↓v83_124, ↓v83_125, ↓v83_128, ↓v83_130, ↓v83_131, ↓v83_132, ↓v83_135, ↓v83_137, ↓v83_138, ↓v83_139, ↓v83_142, ↓v83_145, ↓v83_147, ↓v83_148, ↓v83_149, ↓v83_151, ↓v83_153, ↓v83_154, ↓v83_157, ↓v83_159, ↓v83_161, ↓v83_164, ↓v83_165, ↓v83_166, ↓v83_169, ↓v83_171, ↓v83_172, ↓v83_175, ↓v83_178, ↓v83_181, ↓v83_182, ↓v83_185, ↓v83_186, ↓v83_187, ↓v83_190, ↓v83_193, ↓v83_194, ↓v83_196, ↓v83_197, ↓v83_200, ↓v83_201, ↓v83_204, ↓v83_205, ↓v83_207, ↓v83_208, ↓v83_211, ↓v83_212, ↓v83_215, ↓v83_216, ↓v83_217, ↓v83_220, ↓v83_221, ↓v83_222, ↓qI_c, ↓qL_c, ↓qR_c, ↓pA_o, ↓qC_i, ↓qC_r, ↓oA_s, ↓gI_0, ↓gI_1, ↓gI_2, ↓gI_3, ↓gI_4, ↓gI_5, ↓gI_6, ↓gI_7, ↓gI_8, ↓gI_9, ↓gI_10, ↓gR_0, ↓gR_1, ↓gR_2, ↓gR_3, ↓gR_4, ↓gR_5, ↓gR_6, ↓gR_7, ↓gR_8, ↓gR_9, ↓gR_10, ↓sL_0, ↓sL_1, ↓sL_2, ↓sL_3, ↓sL_4, ↓sL_5, ↓sL_6, ↓sL_7, ↓sL_8, ↓sL_9, ↓sL_10, ↓rrf_si, ↓rrf_sg, ↓shO_si, ↓shO_sg, ↓shO_sr, ↓shA_si, ↓shA_sg, ↓shA_sr, ↓pAs_0, ↓pAs_i, ↓pAs_r, stk_n, stk_i, stk_l, stk_r, List.nil_append, List.cons_append, true_and, and_true, true_or, or_true, Nat.zero_add, dp_s, Nat.reduceAdd, le8_0, le8_1, le8_2, le8_3, le8_4, le8_5, le8_6, le8_7, le8_8, Classical.not_not, aT40, aT41, aT42, aT44, aT54, aT58, aT59, rT54, rT58, rT59, reduceIte, Nat.reduceEqDiff, qn_42, qn_44, true_implies, not_true_eq_false, not_false_eq_true, false_implies, i00]
                exact hno c6
            have hla : s2.la.1 ≤ c := g2.2.1.1.1
            have hlw2 : ∀ n, s2.lw = some n → n < s2.md := g1.2.2.2.2.1.1
            have a2 := g2.1.1
            have a3 := g2.1.2.1
            have hM4z : ∀ M', Of (fun y => b ≤ y ∧ y < b + 279) M M' → b + 303 ≤ M'.sz := fun M' o' => by rw [o'.2.1]; exact hz
            unfold mReT at hk
            rw [hkeys] at hk
            cases wt with
            | true =>
              have cw := of_decide_eq_true hwt
              rw [if_pos cw] at hk
              show X _ 83 120 _ [.inl (match tk1 s2.L (tbK (im, s.I)) with
                | some _ => nI (sumB (mvI e s) + tbK (im, s.I))
                | none => -1)] M3 k
              rw [etb]
              cases hte : tkE s2.pt s2.op (tbB true s2) 1 with
              | none =>
                rw [hte] at hk
                have e1 : tk1 s2.L (tbB true s2) = none := by
                  unfold tk1
                  rw [show tkE s2.L.1 s2.L.2 (tbB true s2) 1 = none from hte]
                rw [e1]
                show X _ 83 120 _ [.inl (-1)] M3 k
                refine vc_X 20 _ _ _ _ _ _ _ ?_
                simp only [↓v83_0, ↓v83_1, ↓v83_4, ↓v83_7, ↓v83_8, ↓v83_11, ↓v83_14, ↓v83_15, ↓v83_16, ↓v83_19, ↓v83_22, ↓v83_25, ↓v83_26, ↓v83_29, ↓v83_30, ↓v83_33, ↓v83_36, ↓v83_37, ↓v83_38, ↓v83_39, ↓v83_40, ↓v83_43, ↓v83_44, ↓v83_45, ↓v83_46, ↓v83_47, ↓v83_48, ↓v83_51, ↓v83_52, ↓v83_54, ↓v83_57, ↓v83_58, ↓v83_59, ↓v83_62, ↓v83_63, ↓v83_66, ↓v83_67, ↓v83_68, ↓v83_71, ↓v83_74, ↓v83_77, ↓v83_80, ↓v83_81, ↓v83_84, ↓v83_85, ↓v83_88, ↓v83_91, ↓v83_94, ↓v83_97, ↓v83_98, ↓v83_101, ↓v83_102, ↓v83_105, ↓v83_108, ↓v83_109, ↓v83_112, ↓v83_113, ↓v83_114, ↓v83_115, ↓v83_116, ↓v83_117, ↓v83_120, ↓v83_122, ↓v83_124, ↓v83_125, ↓v83_128, ↓v83_130, ↓v83_131, ↓v83_132, ↓v83_135, ↓v83_137, ↓v83_138, ↓v83_139, ↓v83_142, ↓v83_145, ↓v83_147, ↓v83_148, ↓v83_149, ↓v83_151, ↓v83_153, ↓v83_154, ↓v83_157, ↓v83_159, ↓v83_161, ↓v83_164, ↓v83_165, ↓v83_166, ↓v83_169, ↓v83_171, ↓v83_172, ↓v83_175, ↓v83_178, ↓v83_181, ↓v83_182, ↓v83_185, ↓v83_186, ↓v83_187, ↓v83_190, ↓v83_193, ↓v83_194, ↓v83_196, ↓v83_197, ↓v83_200, ↓v83_201, ↓v83_204, ↓v83_205, ↓v83_207, ↓v83_208, ↓v83_211, ↓v83_212, ↓v83_215, ↓v83_216, ↓v83_217, ↓v83_220, ↓v83_221, ↓v83_222, ↓qI_c, ↓qL_c, ↓qR_c, ↓pA_o, ↓qC_i, ↓qC_r, ↓oA_s, ↓gI_0, ↓gI_1, ↓gI_2, ↓gI_3, ↓gI_4, ↓gI_5, ↓gI_6, ↓gI_7, ↓gI_8, ↓gI_9, ↓gI_10, ↓gR_0, ↓gR_1, ↓gR_2, ↓gR_3, ↓gR_4, ↓gR_5, ↓gR_6, ↓gR_7, ↓gR_8, ↓gR_9, ↓gR_10, ↓sL_0, ↓sL_1, ↓sL_2, ↓sL_3, ↓sL_4, ↓sL_5, ↓sL_6, ↓sL_7, ↓sL_8, ↓sL_9, ↓sL_10, ↓rrf_si, ↓rrf_sg, ↓shO_si, ↓shO_sg, ↓shO_sr, ↓shA_si, ↓shA_sg, ↓shA_sr, ↓pAs_0, ↓pAs_i, ↓pAs_r, stk_n, stk_i, stk_l, stk_r, List.nil_append, List.cons_append, true_and, and_true, true_or, or_true, Nat.zero_add, dp_s, Nat.reduceAdd, le8_0, le8_1, le8_2, le8_3, le8_4, le8_5, le8_6, le8_7, le8_8, Classical.not_not, aT40, aT41, aT42, aT44, aT54, aT58, aT59, rT54, rT58, rT59, reduceIte, Nat.reduceEqDiff, qn_42, qn_44, true_implies, not_true_eq_false, not_false_eq_true, false_implies, m11]
                exact hk M3 cm3 (oA3.fr (fun _ h => h))
              | some e2 =>
                rw [hte] at hk
                have e1 : ∃ L2, tk1 s2.L (tbB true s2) = some L2 := by
                  unfold tk1
                  rw [show tkE s2.L.1 s2.L.2 (tbB true s2) 1 = some e2 from hte]
                  exact ⟨_, rfl⟩
                obtain ⟨L2, e1⟩ := e1
                rw [e1]
                obtain ⟨t1, t2⟩ := tkE_ok g2.2.2.1.2 hte
                have hk : ∀ M', CM M' b (if 120 < s2.ws.length + tbB true s2 + 1 then (-3, s1) else (nI keys.length, mkR (tbB true s2) (some e) (sEm (some e) (mkTb true e2 s2))) : Int32 × Ms).2 → Fr b M M' → k (some (.inl (if 120 < s2.ws.length + tbB true s2 + 1 then (-3, s1) else (nI keys.length, mkR (tbB true s2) (some e) (sEm (some e) (mkTb true e2 s2))) : Int32 × Ms).1)) M' := hk
                refine step3 (sumB (mvI e s) + tbB true s2) (by omega) (by omega) (fun c6 => ?_) (fun c6 M4 h4 o4 => ?_)
                · rw [if_pos (by omega)] at hk
                  exact hk M3 cm3 (oA3.fr (fun _ h => h))
                · rw [if_neg (by omega)] at hk
                  have h4' := h4
                  obtain ⟨D4, pm4, ws4, im4, G4, a4, q4, r4⟩ := h4'
                  have hf : spOK (frS true s2.ch s2.tb) := frS_ok q4.2.2.2.2.2.1 true
                  rw [bI_t]
                  refine vc_X 20 _ _ _ _ _ _ _ ?_
                  simp only [↓v83_0, ↓v83_1, ↓v83_4, ↓v83_7, ↓v83_8, ↓v83_11, ↓v83_14, ↓v83_15, ↓v83_16, ↓v83_19, ↓v83_22, ↓v83_25, ↓v83_26, ↓v83_29, ↓v83_30, ↓v83_33, ↓v83_36, ↓v83_37, ↓v83_38, ↓v83_39, ↓v83_40, ↓v83_43, ↓v83_44, ↓v83_45, ↓v83_46, ↓v83_47, ↓v83_48, ↓v83_51, ↓v83_52, ↓v83_54, ↓v83_57, ↓v83_58, ↓v83_59, ↓v83_62, ↓v83_63, ↓v83_66, ↓v83_67, ↓v83_68, ↓v83_71, ↓v83_74, ↓v83_77, ↓v83_80, ↓v83_81, ↓v83_84, ↓v83_85, ↓v83_88, ↓v83_91, ↓v83_94, ↓v83_97, ↓v83_98, ↓v83_101, ↓v83_102, ↓v83_105, ↓v83_108, ↓v83_109, ↓v83_112, ↓v83_113, ↓v83_114, ↓v83_115, ↓v83_116, ↓v83_117, ↓v83_120, ↓v83_122, ↓v83_124, ↓v83_125, ↓v83_128, ↓v83_130, ↓v83_131, ↓v83_132, ↓v83_135, ↓v83_137, ↓v83_138, ↓v83_139, ↓v83_142, ↓v83_145, ↓v83_147, ↓v83_148, ↓v83_149, ↓v83_151, ↓v83_153, ↓v83_154, ↓v83_157, ↓v83_159, ↓v83_161, ↓v83_164, ↓v83_165, ↓v83_166, ↓v83_169, ↓v83_171, ↓v83_172, ↓v83_175, ↓v83_178, ↓v83_181, ↓v83_182, ↓v83_185, ↓v83_186, ↓v83_187, ↓v83_190, ↓v83_193, ↓v83_194, ↓v83_196, ↓v83_197, ↓v83_200, ↓v83_201, ↓v83_204, ↓v83_205, ↓v83_207, ↓v83_208, ↓v83_211, ↓v83_212, ↓v83_215, ↓v83_216, ↓v83_217, ↓v83_220, ↓v83_221, ↓v83_222, ↓qI_c, ↓qL_c, ↓qR_c, ↓pA_o, ↓qC_i, ↓qC_r, ↓oA_s, ↓gI_0, ↓gI_1, ↓gI_2, ↓gI_3, ↓gI_4, ↓gI_5, ↓gI_6, ↓gI_7, ↓gI_8, ↓gI_9, ↓gI_10, ↓gR_0, ↓gR_1, ↓gR_2, ↓gR_3, ↓gR_4, ↓gR_5, ↓gR_6, ↓gR_7, ↓gR_8, ↓gR_9, ↓gR_10, ↓sL_0, ↓sL_1, ↓sL_2, ↓sL_3, ↓sL_4, ↓sL_5, ↓sL_6, ↓sL_7, ↓sL_8, ↓sL_9, ↓sL_10, ↓rrf_si, ↓rrf_sg, ↓shO_si, ↓shO_sg, ↓shO_sr, ↓shA_si, ↓shA_sg, ↓shA_sr, ↓pAs_0, ↓pAs_i, ↓pAs_r, stk_n, stk_i, stk_l, stk_r, List.nil_append, List.cons_append, true_and, and_true, true_or, or_true, Nat.zero_add, dp_s, Nat.reduceAdd, le8_0, le8_1, le8_2, le8_3, le8_4, le8_5, le8_6, le8_7, le8_8, Classical.not_not, aT40, aT41, aT42, aT44, aT54, aT58, aT59, rT54, rT58, rT59, reduceIte, Nat.reduceEqDiff, qn_42, qn_44, true_implies, not_true_eq_false, not_false_eq_true, false_implies, i10, ↓shO_of q4.1.1.1]
                  refine c68 (mg := true) h4 w2 (by omega) hte ⟨t1, t2⟩ (by omega) (by omega) (fun M5 h5 o5 => ⟨_, rfl, ?_⟩)
                  have oA5 := o4.trans o5 (fun y hy => by unfold PT PM PX PQ at hy; omega)
                  refine vc_X 20 _ _ _ _ _ _ _ ?_
                  simp only [↓v83_0, ↓v83_1, ↓v83_4, ↓v83_7, ↓v83_8, ↓v83_11, ↓v83_14, ↓v83_15, ↓v83_16, ↓v83_19, ↓v83_22, ↓v83_25, ↓v83_26, ↓v83_29, ↓v83_30, ↓v83_33, ↓v83_36, ↓v83_37, ↓v83_38, ↓v83_39, ↓v83_40, ↓v83_43, ↓v83_44, ↓v83_45, ↓v83_46, ↓v83_47, ↓v83_48, ↓v83_51, ↓v83_52, ↓v83_54, ↓v83_57, ↓v83_58, ↓v83_59, ↓v83_62, ↓v83_63, ↓v83_66, ↓v83_67, ↓v83_68, ↓v83_71, ↓v83_74, ↓v83_77, ↓v83_80, ↓v83_81, ↓v83_84, ↓v83_85, ↓v83_88, ↓v83_91, ↓v83_94, ↓v83_97, ↓v83_98, ↓v83_101, ↓v83_102, ↓v83_105, ↓v83_108, ↓v83_109, ↓v83_112, ↓v83_113, ↓v83_114, ↓v83_115, ↓v83_116, ↓v83_117, ↓v83_120, ↓v83_122, ↓v83_124, ↓v83_125, ↓v83_128, ↓v83_130, ↓v83_131, ↓v83_132, ↓v83_135, ↓v83_137, ↓v83_138, ↓v83_139, ↓v83_142, ↓v83_145, ↓v83_147, ↓v83_148, ↓v83_149, ↓v83_151, ↓v83_153, ↓v83_154, ↓v83_157, ↓v83_159, ↓v83_161, ↓v83_164, ↓v83_165, ↓v83_166, ↓v83_169, ↓v83_171, ↓v83_172, ↓v83_175, ↓v83_178, ↓v83_181, ↓v83_182, ↓v83_185, ↓v83_186, ↓v83_187, ↓v83_190, ↓v83_193, ↓v83_194, ↓v83_196, ↓v83_197, ↓v83_200, ↓v83_201, ↓v83_204, ↓v83_205, ↓v83_207, ↓v83_208, ↓v83_211, ↓v83_212, ↓v83_215, ↓v83_216, ↓v83_217, ↓v83_220, ↓v83_221, ↓v83_222, ↓qI_c, ↓qL_c, ↓qR_c, ↓pA_o, ↓qC_i, ↓qC_r, ↓oA_s, ↓gI_0, ↓gI_1, ↓gI_2, ↓gI_3, ↓gI_4, ↓gI_5, ↓gI_6, ↓gI_7, ↓gI_8, ↓gI_9, ↓gI_10, ↓gR_0, ↓gR_1, ↓gR_2, ↓gR_3, ↓gR_4, ↓gR_5, ↓gR_6, ↓gR_7, ↓gR_8, ↓gR_9, ↓gR_10, ↓sL_0, ↓sL_1, ↓sL_2, ↓sL_3, ↓sL_4, ↓sL_5, ↓sL_6, ↓sL_7, ↓sL_8, ↓sL_9, ↓sL_10, ↓rrf_si, ↓rrf_sg, ↓shO_si, ↓shO_sg, ↓shO_sr, ↓shA_si, ↓shA_sg, ↓shA_sr, ↓pAs_0, ↓pAs_i, ↓pAs_r, stk_n, stk_i, stk_l, stk_r, List.nil_append, List.cons_append, true_and, and_true, true_or, or_true, Nat.zero_add, dp_s, Nat.reduceAdd, le8_0, le8_1, le8_2, le8_3, le8_4, le8_5, le8_6, le8_7, le8_8, Classical.not_not, aT40, aT41, aT42, aT44, aT54, aT58, aT59, rT54, rT58, rT59, reduceIte, Nat.reduceEqDiff, qn_42, qn_44, true_implies, not_true_eq_false, not_false_eq_true, false_implies]
                  refine tail83 h5 (w2.tab t1 t2 hf) he (hM4z M5 oA5) (by rw [tbWs_len]; omega) (by rw [tbWs_len]; omega) (by show s2.md + tbB true s2 + 1 < 1000000; omega) (by show s2.la.1 + 1 < 100000; omega) (fun n hn => ?_) oA5 hk
                  have := hlw2 n hn
                  show n < s2.md + tbB true s2
                  omega
            | false =>
              have cw := of_decide_eq_false hwt
              rw [if_neg cw] at hk
              show X _ 83 120 _ [.inl (nI (sumB (mvI e s)))] M3 k
              refine step3 (sumB (mvI e s)) (by omega) (Nat.le_refl _) (fun c6 => ?_) (fun c6 M4 h4 o4 => ?_)
              · rw [if_pos (by omega)] at hk
                exact hk M3 cm3 (oA3.fr (fun _ h => h))
              · rw [if_neg (by omega)] at hk
                have n0 : (0 : Int32) = nI 0 := rfl
                rw [bI_f]
                refine vc_X 20 _ _ _ _ _ _ _ ?_
                simp only [↓v83_0, ↓v83_1, ↓v83_4, ↓v83_7, ↓v83_8, ↓v83_11, ↓v83_14, ↓v83_15, ↓v83_16, ↓v83_19, ↓v83_22, ↓v83_25, ↓v83_26, ↓v83_29, ↓v83_30, ↓v83_33, ↓v83_36, ↓v83_37, ↓v83_38, ↓v83_39, ↓v83_40, ↓v83_43, ↓v83_44, ↓v83_45, ↓v83_46, ↓v83_47, ↓v83_48, ↓v83_51, ↓v83_52, ↓v83_54, ↓v83_57, ↓v83_58, ↓v83_59, ↓v83_62, ↓v83_63, ↓v83_66, ↓v83_67, ↓v83_68, ↓v83_71, ↓v83_74, ↓v83_77, ↓v83_80, ↓v83_81, ↓v83_84, ↓v83_85, ↓v83_88, ↓v83_91, ↓v83_94, ↓v83_97, ↓v83_98, ↓v83_101, ↓v83_102, ↓v83_105, ↓v83_108, ↓v83_109, ↓v83_112, ↓v83_113, ↓v83_114, ↓v83_115, ↓v83_116, ↓v83_117, ↓v83_120, ↓v83_122, ↓v83_124, ↓v83_125, ↓v83_128, ↓v83_130, ↓v83_131, ↓v83_132, ↓v83_135, ↓v83_137, ↓v83_138, ↓v83_139, ↓v83_142, ↓v83_145, ↓v83_147, ↓v83_148, ↓v83_149, ↓v83_151, ↓v83_153, ↓v83_154, ↓v83_157, ↓v83_159, ↓v83_161, ↓v83_164, ↓v83_165, ↓v83_166, ↓v83_169, ↓v83_171, ↓v83_172, ↓v83_175, ↓v83_178, ↓v83_181, ↓v83_182, ↓v83_185, ↓v83_186, ↓v83_187, ↓v83_190, ↓v83_193, ↓v83_194, ↓v83_196, ↓v83_197, ↓v83_200, ↓v83_201, ↓v83_204, ↓v83_205, ↓v83_207, ↓v83_208, ↓v83_211, ↓v83_212, ↓v83_215, ↓v83_216, ↓v83_217, ↓v83_220, ↓v83_221, ↓v83_222, ↓qI_c, ↓qL_c, ↓qR_c, ↓pA_o, ↓qC_i, ↓qC_r, ↓oA_s, ↓gI_0, ↓gI_1, ↓gI_2, ↓gI_3, ↓gI_4, ↓gI_5, ↓gI_6, ↓gI_7, ↓gI_8, ↓gI_9, ↓gI_10, ↓gR_0, ↓gR_1, ↓gR_2, ↓gR_3, ↓gR_4, ↓gR_5, ↓gR_6, ↓gR_7, ↓gR_8, ↓gR_9, ↓gR_10, ↓sL_0, ↓sL_1, ↓sL_2, ↓sL_3, ↓sL_4, ↓sL_5, ↓sL_6, ↓sL_7, ↓sL_8, ↓sL_9, ↓sL_10, ↓rrf_si, ↓rrf_sg, ↓shO_si, ↓shO_sg, ↓shO_sr, ↓shA_si, ↓shA_sg, ↓shA_sr, ↓pAs_0, ↓pAs_i, ↓pAs_r, stk_n, stk_i, stk_l, stk_r, List.nil_append, List.cons_append, true_and, and_true, true_or, or_true, Nat.zero_add, dp_s, Nat.reduceAdd, le8_0, le8_1, le8_2, le8_3, le8_4, le8_5, le8_6, le8_7, le8_8, Classical.not_not, aT40, aT41, aT42, aT44, aT54, aT58, aT59, rT54, rT58, rT59, reduceIte, Nat.reduceEqDiff, qn_42, qn_44, true_implies, not_true_eq_false, not_false_eq_true, false_implies, i00]
                rw [n0]
                exact tail83 h4 w2 he (hM4z M4 o4) (by omega) (by omega) (by omega) (by omega) hlw2 o4 hk
        have P1 : wt = true → X (d + 7) 83 108 [some (.inr (some b)), some (.inl (nI e)), some (.inl (nI keys.length)), some (.inl (nI keys.length)), none, none] [] M2 k := by
          intro q
          rw [q, bI_t] at S
          refine vc_X 20 _ _ _ _ _ _ _ ?_
          simp only [↓v83_0, ↓v83_1, ↓v83_4, ↓v83_7, ↓v83_8, ↓v83_11, ↓v83_14, ↓v83_15, ↓v83_16, ↓v83_19, ↓v83_22, ↓v83_25, ↓v83_26, ↓v83_29, ↓v83_30, ↓v83_33, ↓v83_36, ↓v83_37, ↓v83_38, ↓v83_39, ↓v83_40, ↓v83_43, ↓v83_44, ↓v83_45, ↓v83_46, ↓v83_47, ↓v83_48, ↓v83_51, ↓v83_52, ↓v83_54, ↓v83_57, ↓v83_58, ↓v83_59, ↓v83_62, ↓v83_63, ↓v83_66, ↓v83_67, ↓v83_68, ↓v83_71, ↓v83_74, ↓v83_77, ↓v83_80, ↓v83_81, ↓v83_84, ↓v83_85, ↓v83_88, ↓v83_91, ↓v83_94, ↓v83_97, ↓v83_98, ↓v83_101, ↓v83_102, ↓v83_105, ↓v83_108, ↓v83_109, ↓v83_112, ↓v83_113, ↓v83_114, ↓v83_115, ↓v83_116, ↓v83_117, ↓v83_120, ↓v83_122, ↓v83_124, ↓v83_125, ↓v83_128, ↓v83_130, ↓v83_131, ↓v83_132, ↓v83_135, ↓v83_137, ↓v83_138, ↓v83_139, ↓v83_142, ↓v83_145, ↓v83_147, ↓v83_148, ↓v83_149, ↓v83_151, ↓v83_153, ↓v83_154, ↓v83_157, ↓v83_159, ↓v83_161, ↓v83_164, ↓v83_165, ↓v83_166, ↓v83_169, ↓v83_171, ↓v83_172, ↓v83_175, ↓v83_178, ↓v83_181, ↓v83_182, ↓v83_185, ↓v83_186, ↓v83_187, ↓v83_190, ↓v83_193, ↓v83_194, ↓v83_196, ↓v83_197, ↓v83_200, ↓v83_201, ↓v83_204, ↓v83_205, ↓v83_207, ↓v83_208, ↓v83_211, ↓v83_212, ↓v83_215, ↓v83_216, ↓v83_217, ↓v83_220, ↓v83_221, ↓v83_222, ↓qI_c, ↓qL_c, ↓qR_c, ↓pA_o, ↓qC_i, ↓qC_r, ↓oA_s, ↓gI_0, ↓gI_1, ↓gI_2, ↓gI_3, ↓gI_4, ↓gI_5, ↓gI_6, ↓gI_7, ↓gI_8, ↓gI_9, ↓gI_10, ↓gR_0, ↓gR_1, ↓gR_2, ↓gR_3, ↓gR_4, ↓gR_5, ↓gR_6, ↓gR_7, ↓gR_8, ↓gR_9, ↓gR_10, ↓sL_0, ↓sL_1, ↓sL_2, ↓sL_3, ↓sL_4, ↓sL_5, ↓sL_6, ↓sL_7, ↓sL_8, ↓sL_9, ↓sL_10, ↓rrf_si, ↓rrf_sg, ↓shO_si, ↓shO_sg, ↓shO_sr, ↓shA_si, ↓shA_sg, ↓shA_sr, ↓pAs_0, ↓pAs_i, ↓pAs_r, stk_n, stk_i, stk_l, stk_r, List.nil_append, List.cons_append, true_and, and_true, true_or, or_true, Nat.zero_add, dp_s, Nat.reduceAdd, le8_0, le8_1, le8_2, le8_3, le8_4, le8_5, le8_6, le8_7, le8_8, Classical.not_not, aT40, aT41, aT42, aT44, aT54, aT58, aT59, rT54, rT58, rT59, reduceIte, Nat.reduceEqDiff, qn_42, qn_44, true_implies, not_true_eq_false, not_false_eq_true, false_implies]
          exact S
        have hI2 : IxC M2 (b + 255) im s.ch s.tb := h2.2.2.2.2.2.1
        have hE2 : EnC M2 (b + 256) (b + 257) s.ch none := hI2.2.1
        have hcn : M2.it (b + 256) 1 = nI (chN s) := hE2.2.2.2.1
        have hcl : chN s ≤ 48 := cnt_le _ 48
        refine vc_X 30 _ _ _ _ _ _ _ ?_
        simp only [↓v83_0, ↓v83_1, ↓v83_4, ↓v83_7, ↓v83_8, ↓v83_11, ↓v83_14, ↓v83_15, ↓v83_16, ↓v83_19, ↓v83_22, ↓v83_25, ↓v83_26, ↓v83_29, ↓v83_30, ↓v83_33, ↓v83_36, ↓v83_37, ↓v83_38, ↓v83_39, ↓v83_40, ↓v83_43, ↓v83_44, ↓v83_45, ↓v83_46, ↓v83_47, ↓v83_48, ↓v83_51, ↓v83_52, ↓v83_54, ↓v83_57, ↓v83_58, ↓v83_59, ↓v83_62, ↓v83_63, ↓v83_66, ↓v83_67, ↓v83_68, ↓v83_71, ↓v83_74, ↓v83_77, ↓v83_80, ↓v83_81, ↓v83_84, ↓v83_85, ↓v83_88, ↓v83_91, ↓v83_94, ↓v83_97, ↓v83_98, ↓v83_101, ↓v83_102, ↓v83_105, ↓v83_108, ↓v83_109, ↓v83_112, ↓v83_113, ↓v83_114, ↓v83_115, ↓v83_116, ↓v83_117, ↓v83_120, ↓v83_122, ↓v83_124, ↓v83_125, ↓v83_128, ↓v83_130, ↓v83_131, ↓v83_132, ↓v83_135, ↓v83_137, ↓v83_138, ↓v83_139, ↓v83_142, ↓v83_145, ↓v83_147, ↓v83_148, ↓v83_149, ↓v83_151, ↓v83_153, ↓v83_154, ↓v83_157, ↓v83_159, ↓v83_161, ↓v83_164, ↓v83_165, ↓v83_166, ↓v83_169, ↓v83_171, ↓v83_172, ↓v83_175, ↓v83_178, ↓v83_181, ↓v83_182, ↓v83_185, ↓v83_186, ↓v83_187, ↓v83_190, ↓v83_193, ↓v83_194, ↓v83_196, ↓v83_197, ↓v83_200, ↓v83_201, ↓v83_204, ↓v83_205, ↓v83_207, ↓v83_208, ↓v83_211, ↓v83_212, ↓v83_215, ↓v83_216, ↓v83_217, ↓v83_220, ↓v83_221, ↓v83_222, ↓qI_c, ↓qL_c, ↓qR_c, ↓pA_o, ↓qC_i, ↓qC_r, ↓oA_s, ↓gI_0, ↓gI_1, ↓gI_2, ↓gI_3, ↓gI_4, ↓gI_5, ↓gI_6, ↓gI_7, ↓gI_8, ↓gI_9, ↓gI_10, ↓gR_0, ↓gR_1, ↓gR_2, ↓gR_3, ↓gR_4, ↓gR_5, ↓gR_6, ↓gR_7, ↓gR_8, ↓gR_9, ↓gR_10, ↓sL_0, ↓sL_1, ↓sL_2, ↓sL_3, ↓sL_4, ↓sL_5, ↓sL_6, ↓sL_7, ↓sL_8, ↓sL_9, ↓sL_10, ↓rrf_si, ↓rrf_sg, ↓shO_si, ↓shO_sg, ↓shO_sr, ↓shA_si, ↓shA_sg, ↓shA_sr, ↓pAs_0, ↓pAs_i, ↓pAs_r, stk_n, stk_i, stk_l, stk_r, List.nil_append, List.cons_append, true_and, and_true, true_or, or_true, Nat.zero_add, dp_s, Nat.reduceAdd, le8_0, le8_1, le8_2, le8_3, le8_4, le8_5, le8_6, le8_7, le8_8, Classical.not_not, aT40, aT41, aT42, aT44, aT54, aT58, aT59, rT54, rT58, rT59, reduceIte, Nat.reduceEqDiff, qn_42, qn_44, true_implies, not_true_eq_false, not_false_eq_true, false_implies, lt_T, T_0, nT (show keys.length < 2147483648 by omega), ↓shO_of h2.1.1.1, ↓rrf_of h2.1.1.2.2.2.2.2.2, ↓shO_of hI2.1.1, ↓rrf_of hI2.1.2.1, ↓shO_of hE2.1.1, hcn, nT (show chN s < 2147483648 by omega)]
        refine ⟨fun c3 => P1 (by rw [← hwt]; exact decide_eq_true (Or.inl (by omega))), fun c3 => ⟨fun c4 => P1 (by rw [← hwt]; exact decide_eq_true (Or.inr (Or.inl (by omega)))), fun c4 => k86 hI2 (by omega) ⟨_, rfl, ?_⟩⟩⟩
        cases ht : tabIn s.tb e with
        | true =>
          rw [if_pos rfl]
          refine vc_X 20 _ _ _ _ _ _ _ ?_
          simp only [↓v83_0, ↓v83_1, ↓v83_4, ↓v83_7, ↓v83_8, ↓v83_11, ↓v83_14, ↓v83_15, ↓v83_16, ↓v83_19, ↓v83_22, ↓v83_25, ↓v83_26, ↓v83_29, ↓v83_30, ↓v83_33, ↓v83_36, ↓v83_37, ↓v83_38, ↓v83_39, ↓v83_40, ↓v83_43, ↓v83_44, ↓v83_45, ↓v83_46, ↓v83_47, ↓v83_48, ↓v83_51, ↓v83_52, ↓v83_54, ↓v83_57, ↓v83_58, ↓v83_59, ↓v83_62, ↓v83_63, ↓v83_66, ↓v83_67, ↓v83_68, ↓v83_71, ↓v83_74, ↓v83_77, ↓v83_80, ↓v83_81, ↓v83_84, ↓v83_85, ↓v83_88, ↓v83_91, ↓v83_94, ↓v83_97, ↓v83_98, ↓v83_101, ↓v83_102, ↓v83_105, ↓v83_108, ↓v83_109, ↓v83_112, ↓v83_113, ↓v83_114, ↓v83_115, ↓v83_116, ↓v83_117, ↓v83_120, ↓v83_122, ↓v83_124, ↓v83_125, ↓v83_128, ↓v83_130, ↓v83_131, ↓v83_132, ↓v83_135, ↓v83_137, ↓v83_138, ↓v83_139, ↓v83_142, ↓v83_145, ↓v83_147, ↓v83_148, ↓v83_149, ↓v83_151, ↓v83_153, ↓v83_154, ↓v83_157, ↓v83_159, ↓v83_161, ↓v83_164, ↓v83_165, ↓v83_166, ↓v83_169, ↓v83_171, ↓v83_172, ↓v83_175, ↓v83_178, ↓v83_181, ↓v83_182, ↓v83_185, ↓v83_186, ↓v83_187, ↓v83_190, ↓v83_193, ↓v83_194, ↓v83_196, ↓v83_197, ↓v83_200, ↓v83_201, ↓v83_204, ↓v83_205, ↓v83_207, ↓v83_208, ↓v83_211, ↓v83_212, ↓v83_215, ↓v83_216, ↓v83_217, ↓v83_220, ↓v83_221, ↓v83_222, ↓qI_c, ↓qL_c, ↓qR_c, ↓pA_o, ↓qC_i, ↓qC_r, ↓oA_s, ↓gI_0, ↓gI_1, ↓gI_2, ↓gI_3, ↓gI_4, ↓gI_5, ↓gI_6, ↓gI_7, ↓gI_8, ↓gI_9, ↓gI_10, ↓gR_0, ↓gR_1, ↓gR_2, ↓gR_3, ↓gR_4, ↓gR_5, ↓gR_6, ↓gR_7, ↓gR_8, ↓gR_9, ↓gR_10, ↓sL_0, ↓sL_1, ↓sL_2, ↓sL_3, ↓sL_4, ↓sL_5, ↓sL_6, ↓sL_7, ↓sL_8, ↓sL_9, ↓sL_10, ↓rrf_si, ↓rrf_sg, ↓shO_si, ↓shO_sg, ↓shO_sr, ↓shA_si, ↓shA_sg, ↓shA_sr, ↓pAs_0, ↓pAs_i, ↓pAs_r, stk_n, stk_i, stk_l, stk_r, List.nil_append, List.cons_append, true_and, and_true, true_or, or_true, Nat.zero_add, dp_s, Nat.reduceAdd, le8_0, le8_1, le8_2, le8_3, le8_4, le8_5, le8_6, le8_7, le8_8, Classical.not_not, aT40, aT41, aT42, aT44, aT54, aT58, aT59, rT54, rT58, rT59, reduceIte, Nat.reduceEqDiff, qn_42, qn_44, true_implies, not_true_eq_false, not_false_eq_true, false_implies, i10]
          exact P1 (by rw [← hwt]; exact decide_eq_true (Or.inr (Or.inr ht)))
        | false =>
          rw [if_neg (by decide)]
          have : wt = false := by rw [← hwt]; exact decide_eq_false (fun q => by
            rcases q with q | q | q
            · omega
            · omega
            · rw [ht] at q; cases q)
          rw [this, bI_f] at S
          refine vc_X 20 _ _ _ _ _ _ _ ?_
          simp only [↓v83_0, ↓v83_1, ↓v83_4, ↓v83_7, ↓v83_8, ↓v83_11, ↓v83_14, ↓v83_15, ↓v83_16, ↓v83_19, ↓v83_22, ↓v83_25, ↓v83_26, ↓v83_29, ↓v83_30, ↓v83_33, ↓v83_36, ↓v83_37, ↓v83_38, ↓v83_39, ↓v83_40, ↓v83_43, ↓v83_44, ↓v83_45, ↓v83_46, ↓v83_47, ↓v83_48, ↓v83_51, ↓v83_52, ↓v83_54, ↓v83_57, ↓v83_58, ↓v83_59, ↓v83_62, ↓v83_63, ↓v83_66, ↓v83_67, ↓v83_68, ↓v83_71, ↓v83_74, ↓v83_77, ↓v83_80, ↓v83_81, ↓v83_84, ↓v83_85, ↓v83_88, ↓v83_91, ↓v83_94, ↓v83_97, ↓v83_98, ↓v83_101, ↓v83_102, ↓v83_105, ↓v83_108, ↓v83_109, ↓v83_112, ↓v83_113, ↓v83_114, ↓v83_115, ↓v83_116, ↓v83_117, ↓v83_120, ↓v83_122, ↓v83_124, ↓v83_125, ↓v83_128, ↓v83_130, ↓v83_131, ↓v83_132, ↓v83_135, ↓v83_137, ↓v83_138, ↓v83_139, ↓v83_142, ↓v83_145, ↓v83_147, ↓v83_148, ↓v83_149, ↓v83_151, ↓v83_153, ↓v83_154, ↓v83_157, ↓v83_159, ↓v83_161, ↓v83_164, ↓v83_165, ↓v83_166, ↓v83_169, ↓v83_171, ↓v83_172, ↓v83_175, ↓v83_178, ↓v83_181, ↓v83_182, ↓v83_185, ↓v83_186, ↓v83_187, ↓v83_190, ↓v83_193, ↓v83_194, ↓v83_196, ↓v83_197, ↓v83_200, ↓v83_201, ↓v83_204, ↓v83_205, ↓v83_207, ↓v83_208, ↓v83_211, ↓v83_212, ↓v83_215, ↓v83_216, ↓v83_217, ↓v83_220, ↓v83_221, ↓v83_222, ↓qI_c, ↓qL_c, ↓qR_c, ↓pA_o, ↓qC_i, ↓qC_r, ↓oA_s, ↓gI_0, ↓gI_1, ↓gI_2, ↓gI_3, ↓gI_4, ↓gI_5, ↓gI_6, ↓gI_7, ↓gI_8, ↓gI_9, ↓gI_10, ↓gR_0, ↓gR_1, ↓gR_2, ↓gR_3, ↓gR_4, ↓gR_5, ↓gR_6, ↓gR_7, ↓gR_8, ↓gR_9, ↓gR_10, ↓sL_0, ↓sL_1, ↓sL_2, ↓sL_3, ↓sL_4, ↓sL_5, ↓sL_6, ↓sL_7, ↓sL_8, ↓sL_9, ↓sL_10, ↓rrf_si, ↓rrf_sg, ↓shO_si, ↓shO_sg, ↓shO_sr, ↓shA_si, ↓shA_sg, ↓shA_sr, ↓pAs_0, ↓pAs_i, ↓pAs_r, stk_n, stk_i, stk_l, stk_r, List.nil_append, List.cons_append, true_and, and_true, true_or, or_true, Nat.zero_add, dp_s, Nat.reduceAdd, le8_0, le8_1, le8_2, le8_3, le8_4, le8_5, le8_6, le8_7, le8_8, Classical.not_not, aT40, aT41, aT42, aT44, aT54, aT58, aT59, rT54, rT58, rT59, reduceIte, Nat.reduceEqDiff, qn_42, qn_44, true_implies, not_true_eq_false, not_false_eq_true, false_implies, i00]
          exact S
