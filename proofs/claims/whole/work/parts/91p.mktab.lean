/-! the reference: makeTable -/
def mkT0 (mg : Bool) (e : Nat) (s : Ms) : Ms := sW (tbWs mg e s) (mkC 2 0 (tbL (frS mg s.ch s.tb)) e s)
def PF (r : Nat) : Nat → Prop := fun y => y = r + 19 ∨ y = r + 23
theorem frI {M : Mm} {r : Nat} {s : Ms} (h : RP M r s) {i p : Nat} {mg : Bool} (hi : i < 48) (hp : frS mg s.ch s.tb i = some p) : p = 255 ∨ p < 128 := by
  cases mg with
  | true => exact Or.inr (h.pl hi hp)
  | false => exact h.2.2.2.2.2.1 i p hi hp
theorem tabA {d : Nat} {M : Mm} {k : mQ} {r : Nat} {s : Ms} {mg : Bool} {z4 z5 : Option mL} (h : RP M r s) (hk : ∀ M', (∀ q, q < 48 → M'.it (r + 23) q = oI (frS mg s.ch s.tb q)) → (∀ j v, (spl (frS mg s.ch s.tb) 48)[j]? = some v → M'.it (r + 19) (7 + j) &&& 255 = nI v) → Rf r (PF r) [] M M' → X (d + 4) 141 4 [some (.inr (some r)), some (.inl (bI mg)), some (.inl (nI (nE (frS mg s.ch s.tb) 48))), some (.inl (nI 48)), z4, z5] [] M' k) :
    ∀ (m i : Nat) (M1 : Mm), i + m = 48 → (∀ q, q < i → M1.it (r + 23) q = oI (frS mg s.ch s.tb q)) → (∀ j v, (spl (frS mg s.ch s.tb) i)[j]? = some v → M1.it (r + 19) (7 + j) &&& 255 = nI v) → Rf r (PF r) [] M M1 → X (d + 4) 141 4 [some (.inr (some r)), some (.inl (bI mg)), some (.inl (nI (nE (frS mg s.ch s.tb) i))), some (.inl (nI i)), z4, z5] [] M1 k := by
  intro m
  induction m with
  | zero =>
    intro i M1 hi h1 h2 o1
    have e : i = 48 := by omega
    subst e
    exact hk M1 h1 h2 o1
  | succ m ih =>
    intro i M1 hi h1 h2 o1
    have hs := h.1
    have hs1 := hs.oi o1.1
    have R1 : RP M1 r s := h.rf0 o1 (fun y q => Or.inr (by unfold PF at q; omega)) (by simp)
    have hn := nE_le (frS mg s.ch s.tb) i
    have hns : nE (frS mg s.ch s.tb) (i + 1) = nE (frS mg s.ch s.tb) i + (if (frS mg s.ch s.tb i).isSome then 1 else 0) := nE_s _ _
    have hsp : spl (frS mg s.ch s.tb) (i + 1) = spl (frS mg s.ch s.tb) i ++ spE i (frS mg s.ch s.tb i) := rfl
    have hln := spl_len (frS mg s.ch s.tb) i
    have fin : X (d + 4) 141 33 [some (.inr (some r)), some (.inl (bI mg)), some (.inl (nI (nE (frS mg s.ch s.tb) i))), some (.inl (nI i)), z4, z5] [.inl (oI (frS mg s.ch s.tb i)), .inl (nI i), .inr (.inr (some (r + 23)))] M1 k := by
      generalize hM2 : M1.si (r + 23) i (oI (frS mg s.ch s.tb i)) = M2
      have o2 : Rf r (PF r) [] M M2 := by rw [← hM2]; exact o1.row (Or.inr rfl) (by omega)
      have g23 : ∀ q, q < i + 1 → M2.it (r + 23) q = oI (frS mg s.ch s.tb q) := by
        intro q hq
        rw [← hM2, si_it]
        by_cases cq : q = i
        · rw [if_pos ⟨rfl, cq⟩, cq]
        · rw [if_neg (fun z => cq z.2)]; exact h1 q (by omega)
      have gi := g23 i (by omega)
      have g19 : ∀ j v, (spl (frS mg s.ch s.tb) i)[j]? = some v → M2.it (r + 19) (7 + j) &&& 255 = nI v := fun j v hj => by rw [← hM2, si_it, if_neg (by omega)]; exact h2 j v hj
      cases hfi : frS mg s.ch s.tb i with
      | none =>
        rw [hfi, oI_none] at gi hM2
        rw [hfi] at hns hsp
        have e0 : oI none = -1 := oI_none
        refine vc_X 30 _ _ _ _ _ _ _ ?_
        simp only [↓v141_0, ↓v141_1, ↓v141_2, ↓v141_3, ↓v141_4, ↓v141_5, ↓v141_7, ↓v141_10, ↓v141_11, ↓v141_14, ↓v141_15, ↓v141_16, ↓v141_19, ↓v141_20, ↓v141_21, ↓v141_24, ↓v141_27, ↓v141_28, ↓v141_31, ↓v141_32, ↓v141_33, ↓v141_34, ↓v141_35, ↓v141_38, ↓v141_39, ↓v141_40, ↓v141_41, ↓v141_44, ↓v141_47, ↓v141_48, ↓v141_51, ↓v141_53, ↓v141_54, ↓v141_55, ↓v141_56, ↓v141_57, ↓v141_58, ↓v141_59, ↓v141_60, ↓v141_61, ↓v141_64, ↓v141_66, ↓v141_67, ↓v141_68, ↓v141_69, ↓v141_70, ↓v141_71, ↓v141_74, ↓v141_75, ↓v141_76, ↓v141_79, ↓v141_82, ↓v141_85, ↓v141_88, ↓v141_89, ↓v141_92, ↓v141_93, ↓v141_94, ↓v141_96, ↓v141_97, ↓v141_98, ↓v141_99, ↓v141_100, ↓v141_103, ↓v141_105, ↓v141_106, ↓v141_107, ↓v141_108, ↓v141_109, ↓v141_110, ↓v141_113, ↓v141_114, ↓v141_115, ↓v141_118, ↓v141_121, ↓v141_122, ↓v141_125, ↓v141_126, ↓v141_129, ↓v141_130, ↓v141_131, ↓v141_133, ↓v141_134, ↓v141_135, ↓v141_136, ↓v141_139, ↓v141_142, ↓v141_145, ↓v141_146, ↓v141_149, ↓v141_151, ↓v141_152, ↓v141_153, ↓v141_154, ↓v141_155, ↓v141_156, ↓v141_159, ↓v141_162, ↓v141_163, ↓v141_164, ↓v141_165, ↓v141_166, ↓v141_167, ↓v141_168, ↓v141_169, ↓v141_170, ↓v141_171, ↓v141_174, ↓v141_175, ↓v141_176, ↓v141_177, ↓v141_180, ↓v141_183, ↓v141_184, ↓v141_185, ↓v141_188, ↓v141_189, ↓v141_190, ↓v141_191, ↓v141_194, ↓v141_196, ↓v141_198, ↓v141_199, ↓v141_202, ↓v141_205, ↓v141_206, ↓v141_208, ↓v141_210, ↓v141_212, ↓v141_215, ↓v141_216, ↓v141_219, ↓v141_221, ↓v141_222, ↓v141_223, ↓v141_226, ↓v141_227, ↓v141_230, ↓v141_232, ↓v141_233, ↓v141_236, ↓v141_239, ↓v141_240, ↓v141_242, ↓v141_243, ↓v141_246, ↓v141_248, ↓v141_249, ↓v141_252, ↓v141_255, ↓v141_258, ↓v141_261, ↓v141_264, ↓v141_265, ↓qI_c, ↓qL_c, ↓qR_c, ↓pA_o, ↓qC_i, ↓qC_r, ↓oA_s, ↓gI_0, ↓gI_1, ↓gI_2, ↓gI_3, ↓gI_4, ↓gI_5, ↓gI_6, ↓gI_7, ↓gI_8, ↓gI_9, ↓gI_10, ↓gR_0, ↓gR_1, ↓gR_2, ↓gR_3, ↓gR_4, ↓gR_5, ↓gR_6, ↓gR_7, ↓gR_8, ↓gR_9, ↓gR_10, ↓sL_0, ↓sL_1, ↓sL_2, ↓sL_3, ↓sL_4, ↓sL_5, ↓sL_6, ↓sL_7, ↓sL_8, ↓sL_9, ↓sL_10, ↓rrf_si, ↓rrf_sg, ↓shO_si, ↓shO_sg, ↓shO_sr, ↓shA_si, ↓shA_sg, ↓shA_sr, ↓pAs_0, ↓pAs_i, ↓pAs_r, stk_n, stk_i, stk_l, stk_r, List.nil_append, List.cons_append, true_and, and_true, true_or, or_true, Nat.zero_add, dp_s, Nat.reduceAdd, le8_0, le8_1, le8_2, le8_3, le8_4, le8_5, le8_6, le8_7, le8_8, Classical.not_not, aT40, aT41, aT42, aT44, aT54, aT58, aT59, rT54, rT58, rT59, reduceIte, Nat.reduceEqDiff, qn_42, qn_44, true_implies, not_true_eq_false, not_false_eq_true, false_implies, e0, ↓shA_of hs1.2.2.2.2.2.2.2.2.2.2.2, nC (show i < 2147483648 by omega), hM2, ↓shO_of hs1.1.1, ↓rrf_of hs1.2.2.1.2.2.2.2.2.2.2.2, gi, m11, nI_1]
        refine ⟨inB_n (by omega) (by omega), inB_n (by omega) (by omega), ?_⟩
        have := ih (i + 1) M2 (by omega) g23 (fun j v hj => ?_) o2
        · rw [hns] at this
          exact this
        · rw [hsp] at hj
          exact g19 j v (by simpa [spE] using hj)
      | some p =>
        rw [hfi] at gi hns hsp hM2
        have hp := frI h (by omega) hfi
        have e1 : oI (some p) = nI p := rfl
        rw [e1] at gi hM2
        generalize hN : nE (frS mg s.ch s.tb) i = N at hns hn hln
        have e7 : (7 : Int32) + 3 * nI N = nI (7 + 3 * N) := by rw [n_7, n_3, pk_mul, nI_add]
        have e8 : (8 : Int32) + 3 * nI N = nI (8 + 3 * N) := by rw [n_8, n_3, pk_mul, nI_add]
        have e9 : (9 : Int32) + 3 * nI N = nI (9 + 3 * N) := by rw [n_9, n_3, pk_mul, nI_add]
        generalize hM3 : M2.si (r + 19) (7 + 3 * N) (nI i).toInt8.toInt32.toInt8.toInt32 = M3
        have gi3 : M3.it (r + 23) i = nI p := by rw [← hM3, si_it, if_neg (by omega)]; exact gi
        refine vc_X 60 _ _ _ _ _ _ _ ?_
        simp only [↓v141_0, ↓v141_1, ↓v141_2, ↓v141_3, ↓v141_4, ↓v141_5, ↓v141_7, ↓v141_10, ↓v141_11, ↓v141_14, ↓v141_15, ↓v141_16, ↓v141_19, ↓v141_20, ↓v141_21, ↓v141_24, ↓v141_27, ↓v141_28, ↓v141_31, ↓v141_32, ↓v141_33, ↓v141_34, ↓v141_35, ↓v141_38, ↓v141_39, ↓v141_40, ↓v141_41, ↓v141_44, ↓v141_47, ↓v141_48, ↓v141_51, ↓v141_53, ↓v141_54, ↓v141_55, ↓v141_56, ↓v141_57, ↓v141_58, ↓v141_59, ↓v141_60, ↓v141_61, ↓v141_64, ↓v141_66, ↓v141_67, ↓v141_68, ↓v141_69, ↓v141_70, ↓v141_71, ↓v141_74, ↓v141_75, ↓v141_76, ↓v141_79, ↓v141_82, ↓v141_85, ↓v141_88, ↓v141_89, ↓v141_92, ↓v141_93, ↓v141_94, ↓v141_96, ↓v141_97, ↓v141_98, ↓v141_99, ↓v141_100, ↓v141_103, ↓v141_105, ↓v141_106, ↓v141_107, ↓v141_108, ↓v141_109, ↓v141_110, ↓v141_113, ↓v141_114, ↓v141_115, ↓v141_118, ↓v141_121, ↓v141_122, ↓v141_125, ↓v141_126, ↓v141_129, ↓v141_130, ↓v141_131, ↓v141_133, ↓v141_134, ↓v141_135, ↓v141_136, ↓v141_139, ↓v141_142, ↓v141_145, ↓v141_146, ↓v141_149, ↓v141_151, ↓v141_152, ↓v141_153, ↓v141_154, ↓v141_155, ↓v141_156, ↓v141_159, ↓v141_162, ↓v141_163, ↓v141_164, ↓v141_165, ↓v141_166, ↓v141_167, ↓v141_168, ↓v141_169, ↓v141_170, ↓v141_171, ↓v141_174, ↓v141_175, ↓v141_176, ↓v141_177, ↓v141_180, ↓v141_183, ↓v141_184, ↓v141_185, ↓v141_188, ↓v141_189, ↓v141_190, ↓v141_191, ↓v141_194, ↓v141_196, ↓v141_198, ↓v141_199, ↓v141_202, ↓v141_205, ↓v141_206, ↓v141_208, ↓v141_210, ↓v141_212, ↓v141_215, ↓v141_216, ↓v141_219, ↓v141_221, ↓v141_222, ↓v141_223, ↓v141_226, ↓v141_227, ↓v141_230, ↓v141_232, ↓v141_233, ↓v141_236, ↓v141_239, ↓v141_240, ↓v141_242, ↓v141_243, ↓v141_246, ↓v141_248, ↓v141_249, ↓v141_252, ↓v141_255, ↓v141_258, ↓v141_261, ↓v141_264, ↓v141_265, ↓qI_c, ↓qL_c, ↓qR_c, ↓pA_o, ↓qC_i, ↓qC_r, ↓oA_s, ↓gI_0, ↓gI_1, ↓gI_2, ↓gI_3, ↓gI_4, ↓gI_5, ↓gI_6, ↓gI_7, ↓gI_8, ↓gI_9, ↓gI_10, ↓gR_0, ↓gR_1, ↓gR_2, ↓gR_3, ↓gR_4, ↓gR_5, ↓gR_6, ↓gR_7, ↓gR_8, ↓gR_9, ↓gR_10, ↓sL_0, ↓sL_1, ↓sL_2, ↓sL_3, ↓sL_4, ↓sL_5, ↓sL_6, ↓sL_7, ↓sL_8, ↓sL_9, ↓sL_10, ↓rrf_si, ↓rrf_sg, ↓shO_si, ↓shO_sg, ↓shO_sr, ↓shA_si, ↓shA_sg, ↓shA_sr, ↓pAs_0, ↓pAs_i, ↓pAs_r, stk_n, stk_i, stk_l, stk_r, List.nil_append, List.cons_append, true_and, and_true, true_or, or_true, Nat.zero_add, dp_s, Nat.reduceAdd, le8_0, le8_1, le8_2, le8_3, le8_4, le8_5, le8_6, le8_7, le8_8, Classical.not_not, aT40, aT41, aT42, aT44, aT54, aT58, aT59, rT54, rT58, rT59, reduceIte, Nat.reduceEqDiff, qn_42, qn_44, true_implies, not_true_eq_false, not_false_eq_true, false_implies, ↓shA_of hs1.2.2.2.2.2.2.2.2.2.2.2, nC (show i < 2147483648 by omega), e1, hM2, ↓shO_of hs1.1.1, ↓rrf_of hs1.2.2.1.2.2.2.2.2.2.2.2, gi, nI_nm (show p < 2147483648 by omega) (show ((-1 : Int32)).toInt < 0 by decide), ↓rrf_of hs1.2.2.1.2.2.2.2.1, ↓shA_of hs1.2.2.2.2.2.2.2.1, e7, nC (show 7 + 3 * N < 2147483648 by omega), hM3, e8, gi3]
        have i48 : inB (nI i) 48 := inB_n (by omega) (by omega)
        have o3 : Rf r (PF r) [] M M3 := by rw [← hM3]; exact o2.row (Or.inl rfl) (by omega)
        have hs3 := hs.oi o3.1
        have two : ∀ v1 v2 : Nat, v1 < 256 → v2 < 256 → v1 = (if p = 255 then 255 else p / 16) → v2 = (if p = 255 then 0 else p % 16) → ∀ M5, M5 = (M3.si (r + 19) (8 + 3 * N) (nI v1).toInt8.toInt32.toInt8.toInt32).si (r + 19) (9 + 3 * N) (nI v2).toInt8.toInt32.toInt8.toInt32 → X (d + 4) 141 4 [some (.inr (some r)), some (.inl (bI mg)), some (.inl (nI (N + 1))), some (.inl (nI (i + 1))), z4, z5] [] M5 k := by
          intro v1 v2 hv1 hv2 e1 e2 M5 hM5
          have := ih (i + 1) M5 (by omega) (fun q hq => ?_) (fun j v hj => ?_) ?_
          · rw [hns] at this
            exact this
          · rw [hM5, si_it, if_neg (by omega), si_it, if_neg (by omega), ← hM3, si_it, if_neg (by omega)]
            exact g23 q hq
          · rw [hsp] at hj
            rcases get_app hj with hj | ⟨h1j, hj⟩
            · have hjl := (List.getElem?_eq_some_iff.mp hj).1
              rw [hM5, si_it, if_neg (fun z => by omega), si_it, if_neg (fun z => by omega), ← hM3, si_it, if_neg (fun z => by omega)]
              exact g19 j v hj
            · have hj : ([i, v1, v2] : List Nat)[j - (spl (frS mg s.ch s.tb) i).length]? = some v := by rw [e1, e2]; exact hj
              have hjl := (List.getElem?_eq_some_iff.mp hj).1
              have hjl : j - (spl (frS mg s.ch s.tb) i).length < 3 := hjl
              rcases (show j - (spl (frS mg s.ch s.tb) i).length = 0 ∨ j - (spl (frS mg s.ch s.tb) i).length = 1 ∨ j - (spl (frS mg s.ch s.tb) i).length = 2 by omega) with z | z | z
              · rw [z] at hj
                cases hj
                rw [show 7 + j = 7 + 3 * N by omega, hM5, si_it, if_neg (fun z => by omega), si_it, if_neg (fun z => by omega), ← hM3, si_it, if_pos ⟨rfl, rfl⟩]
                exact b8 (by omega)
              · rw [z] at hj
                cases hj
                rw [show 7 + j = 8 + 3 * N by omega, hM5, si_it, if_neg (fun z => by omega), si_it, if_pos ⟨rfl, rfl⟩]
                exact b8 hv1
              · rw [z] at hj
                cases hj
                rw [show 7 + j = 9 + 3 * N by omega, hM5, si_it, if_pos ⟨rfl, rfl⟩]
                exact b8 hv2
          · rw [hM5]
            exact (o3.row (Or.inl rfl) (by omega)).row (Or.inl rfl) (by omega)
        have n255 : (255 : Int32) = nI 255 := rfl
        refine ⟨i48, i48, inB_n (by omega) (by omega), i48, fun c => ?_, fun c => ?_⟩
        · have hp5 : p ≠ 255 := fun e => c (by rw [e]; rfl)
          refine ⟨i48, by decide, ?_⟩
          rw [n_16, pk_div (by omega) (by omega) (by omega)]
          generalize hM4 : M3.si (r + 19) (8 + 3 * N) (nI (p / 16)).toInt8.toInt32.toInt8.toInt32 = M4
          have gi4 : M4.it (r + 23) i = nI p := by rw [← hM4, si_it, if_neg (by omega)]; exact gi3
          have ne5 : (nI p = 255) = False := eq_false c
          refine vc_X 40 _ _ _ _ _ _ _ ?_
          simp only [↓v141_0, ↓v141_1, ↓v141_2, ↓v141_3, ↓v141_4, ↓v141_5, ↓v141_7, ↓v141_10, ↓v141_11, ↓v141_14, ↓v141_15, ↓v141_16, ↓v141_19, ↓v141_20, ↓v141_21, ↓v141_24, ↓v141_27, ↓v141_28, ↓v141_31, ↓v141_32, ↓v141_33, ↓v141_34, ↓v141_35, ↓v141_38, ↓v141_39, ↓v141_40, ↓v141_41, ↓v141_44, ↓v141_47, ↓v141_48, ↓v141_51, ↓v141_53, ↓v141_54, ↓v141_55, ↓v141_56, ↓v141_57, ↓v141_58, ↓v141_59, ↓v141_60, ↓v141_61, ↓v141_64, ↓v141_66, ↓v141_67, ↓v141_68, ↓v141_69, ↓v141_70, ↓v141_71, ↓v141_74, ↓v141_75, ↓v141_76, ↓v141_79, ↓v141_82, ↓v141_85, ↓v141_88, ↓v141_89, ↓v141_92, ↓v141_93, ↓v141_94, ↓v141_96, ↓v141_97, ↓v141_98, ↓v141_99, ↓v141_100, ↓v141_103, ↓v141_105, ↓v141_106, ↓v141_107, ↓v141_108, ↓v141_109, ↓v141_110, ↓v141_113, ↓v141_114, ↓v141_115, ↓v141_118, ↓v141_121, ↓v141_122, ↓v141_125, ↓v141_126, ↓v141_129, ↓v141_130, ↓v141_131, ↓v141_133, ↓v141_134, ↓v141_135, ↓v141_136, ↓v141_139, ↓v141_142, ↓v141_145, ↓v141_146, ↓v141_149, ↓v141_151, ↓v141_152, ↓v141_153, ↓v141_154, ↓v141_155, ↓v141_156, ↓v141_159, ↓v141_162, ↓v141_163, ↓v141_164, ↓v141_165, ↓v141_166, ↓v141_167, ↓v141_168, ↓v141_169, ↓v141_170, ↓v141_171, ↓v141_174, ↓v141_175, ↓v141_176, ↓v141_177, ↓v141_180, ↓v141_183, ↓v141_184, ↓v141_185, ↓v141_188, ↓v141_189, ↓v141_190, ↓v141_191, ↓v141_194, ↓v141_196, ↓v141_198, ↓v141_199, ↓v141_202, ↓v141_205, ↓v141_206, ↓v141_208, ↓v141_210, ↓v141_212, ↓v141_215, ↓v141_216, ↓v141_219, ↓v141_221, ↓v141_222, ↓v141_223, ↓v141_226, ↓v141_227, ↓v141_230, ↓v141_232, ↓v141_233, ↓v141_236, ↓v141_239, ↓v141_240, ↓v141_242, ↓v141_243, ↓v141_246, ↓v141_248, ↓v141_249, ↓v141_252, ↓v141_255, ↓v141_258, ↓v141_261, ↓v141_264, ↓v141_265, ↓qI_c, ↓qL_c, ↓qR_c, ↓pA_o, ↓qC_i, ↓qC_r, ↓oA_s, ↓gI_0, ↓gI_1, ↓gI_2, ↓gI_3, ↓gI_4, ↓gI_5, ↓gI_6, ↓gI_7, ↓gI_8, ↓gI_9, ↓gI_10, ↓gR_0, ↓gR_1, ↓gR_2, ↓gR_3, ↓gR_4, ↓gR_5, ↓gR_6, ↓gR_7, ↓gR_8, ↓gR_9, ↓gR_10, ↓sL_0, ↓sL_1, ↓sL_2, ↓sL_3, ↓sL_4, ↓sL_5, ↓sL_6, ↓sL_7, ↓sL_8, ↓sL_9, ↓sL_10, ↓rrf_si, ↓rrf_sg, ↓shO_si, ↓shO_sg, ↓shO_sr, ↓shA_si, ↓shA_sg, ↓shA_sr, ↓pAs_0, ↓pAs_i, ↓pAs_r, stk_n, stk_i, stk_l, stk_r, List.nil_append, List.cons_append, true_and, and_true, true_or, or_true, Nat.zero_add, dp_s, Nat.reduceAdd, le8_0, le8_1, le8_2, le8_3, le8_4, le8_5, le8_6, le8_7, le8_8, Classical.not_not, aT40, aT41, aT42, aT44, aT54, aT58, aT59, rT54, rT58, rT59, reduceIte, Nat.reduceEqDiff, qn_42, qn_44, true_implies, not_true_eq_false, not_false_eq_true, false_implies, nC (show 8 + 3 * N < 2147483648 by omega), ↓shA_of hs3.2.2.2.2.2.2.2.1, hM4, ↓shO_of hs3.1.1, ↓rrf_of hs3.2.2.1.2.2.2.2.1, e9, ↓rrf_of hs3.2.2.1.2.2.2.2.2.2.2.2, ↓shA_of hs3.2.2.2.2.2.2.2.2.2.2.2, nC (show i < 2147483648 by omega), gi4, ne5, nC (show 9 + 3 * N < 2147483648 by omega), nI_1]
          refine ⟨inB_n (by omega) (by omega), i48, i48, by decide, inB_n (by omega) (by omega), ?_⟩
          have er : nI p - nI p / 16 * 16 = nI (p % 16) := by
            rw [n_16, pk_div (by omega) (by omega) (by omega), pk_mul, pk_sub (by omega)]
            exact congrArg nI (by omega)
          rw [er]
          exact two (p / 16) (p % 16) (by omega) (by omega) (by rw [if_neg hp5]) (by rw [if_neg hp5]) _ (by rw [← hM4])
        · rw [n255, nI_eq (by omega) (by omega)] at c
          have e255 : nI p = 255 := by rw [c]; rfl
          generalize hM4 : M3.si (r + 19) (8 + 3 * N) (Int32.toInt8 255).toInt32.toInt8.toInt32 = M4
          have gi4 : M4.it (r + 23) i = 255 := by rw [← hM4, si_it, if_neg (by omega)]; rw [← e255]; exact gi3
          refine vc_X 40 _ _ _ _ _ _ _ ?_
          simp only [↓v141_0, ↓v141_1, ↓v141_2, ↓v141_3, ↓v141_4, ↓v141_5, ↓v141_7, ↓v141_10, ↓v141_11, ↓v141_14, ↓v141_15, ↓v141_16, ↓v141_19, ↓v141_20, ↓v141_21, ↓v141_24, ↓v141_27, ↓v141_28, ↓v141_31, ↓v141_32, ↓v141_33, ↓v141_34, ↓v141_35, ↓v141_38, ↓v141_39, ↓v141_40, ↓v141_41, ↓v141_44, ↓v141_47, ↓v141_48, ↓v141_51, ↓v141_53, ↓v141_54, ↓v141_55, ↓v141_56, ↓v141_57, ↓v141_58, ↓v141_59, ↓v141_60, ↓v141_61, ↓v141_64, ↓v141_66, ↓v141_67, ↓v141_68, ↓v141_69, ↓v141_70, ↓v141_71, ↓v141_74, ↓v141_75, ↓v141_76, ↓v141_79, ↓v141_82, ↓v141_85, ↓v141_88, ↓v141_89, ↓v141_92, ↓v141_93, ↓v141_94, ↓v141_96, ↓v141_97, ↓v141_98, ↓v141_99, ↓v141_100, ↓v141_103, ↓v141_105, ↓v141_106, ↓v141_107, ↓v141_108, ↓v141_109, ↓v141_110, ↓v141_113, ↓v141_114, ↓v141_115, ↓v141_118, ↓v141_121, ↓v141_122, ↓v141_125, ↓v141_126, ↓v141_129, ↓v141_130, ↓v141_131, ↓v141_133, ↓v141_134, ↓v141_135, ↓v141_136, ↓v141_139, ↓v141_142, ↓v141_145, ↓v141_146, ↓v141_149, ↓v141_151, ↓v141_152, ↓v141_153, ↓v141_154, ↓v141_155, ↓v141_156, ↓v141_159, ↓v141_162, ↓v141_163, ↓v141_164, ↓v141_165, ↓v141_166, ↓v141_167, ↓v141_168, ↓v141_169, ↓v141_170, ↓v141_171, ↓v141_174, ↓v141_175, ↓v141_176, ↓v141_177, ↓v141_180, ↓v141_183, ↓v141_184, ↓v141_185, ↓v141_188, ↓v141_189, ↓v141_190, ↓v141_191, ↓v141_194, ↓v141_196, ↓v141_198, ↓v141_199, ↓v141_202, ↓v141_205, ↓v141_206, ↓v141_208, ↓v141_210, ↓v141_212, ↓v141_215, ↓v141_216, ↓v141_219, ↓v141_221, ↓v141_222, ↓v141_223, ↓v141_226, ↓v141_227, ↓v141_230, ↓v141_232, ↓v141_233, ↓v141_236, ↓v141_239, ↓v141_240, ↓v141_242, ↓v141_243, ↓v141_246, ↓v141_248, ↓v141_249, ↓v141_252, ↓v141_255, ↓v141_258, ↓v141_261, ↓v141_264, ↓v141_265, ↓qI_c, ↓qL_c, ↓qR_c, ↓pA_o, ↓qC_i, ↓qC_r, ↓oA_s, ↓gI_0, ↓gI_1, ↓gI_2, ↓gI_3, ↓gI_4, ↓gI_5, ↓gI_6, ↓gI_7, ↓gI_8, ↓gI_9, ↓gI_10, ↓gR_0, ↓gR_1, ↓gR_2, ↓gR_3, ↓gR_4, ↓gR_5, ↓gR_6, ↓gR_7, ↓gR_8, ↓gR_9, ↓gR_10, ↓sL_0, ↓sL_1, ↓sL_2, ↓sL_3, ↓sL_4, ↓sL_5, ↓sL_6, ↓sL_7, ↓sL_8, ↓sL_9, ↓sL_10, ↓rrf_si, ↓rrf_sg, ↓shO_si, ↓shO_sg, ↓shO_sr, ↓shA_si, ↓shA_sg, ↓shA_sr, ↓pAs_0, ↓pAs_i, ↓pAs_r, stk_n, stk_i, stk_l, stk_r, List.nil_append, List.cons_append, true_and, and_true, true_or, or_true, Nat.zero_add, dp_s, Nat.reduceAdd, le8_0, le8_1, le8_2, le8_3, le8_4, le8_5, le8_6, le8_7, le8_8, Classical.not_not, aT40, aT41, aT42, aT44, aT54, aT58, aT59, rT54, rT58, rT59, reduceIte, Nat.reduceEqDiff, qn_42, qn_44, true_implies, not_true_eq_false, not_false_eq_true, false_implies, nC (show 8 + 3 * N < 2147483648 by omega), ↓shA_of hs3.2.2.2.2.2.2.2.1, hM4, ↓shO_of hs3.1.1, ↓rrf_of hs3.2.2.1.2.2.2.2.1, e9, ↓rrf_of hs3.2.2.1.2.2.2.2.2.2.2.2, ↓shA_of hs3.2.2.2.2.2.2.2.2.2.2.2, nC (show i < 2147483648 by omega), gi4, nC (show 9 + 3 * N < 2147483648 by omega), nI_1]
          exact ⟨inB_n (by omega) (by omega), i48, inB_n (by omega) (by omega), two 255 0 (by omega) (by omega) (by rw [if_pos c]) (by rw [if_pos c]) _ (by rw [← hM4]; rfl)⟩
    cases mg with
    | true =>
      refine vc_X 30 _ _ _ _ _ _ _ ?_
      simp only [↓v141_0, ↓v141_1, ↓v141_2, ↓v141_3, ↓v141_4, ↓v141_5, ↓v141_7, ↓v141_10, ↓v141_11, ↓v141_14, ↓v141_15, ↓v141_16, ↓v141_19, ↓v141_20, ↓v141_21, ↓v141_24, ↓v141_27, ↓v141_28, ↓v141_31, ↓v141_32, ↓v141_33, ↓v141_34, ↓v141_35, ↓v141_38, ↓v141_39, ↓v141_40, ↓v141_41, ↓v141_44, ↓v141_47, ↓v141_48, ↓v141_51, ↓v141_53, ↓v141_54, ↓v141_55, ↓v141_56, ↓v141_57, ↓v141_58, ↓v141_59, ↓v141_60, ↓v141_61, ↓v141_64, ↓v141_66, ↓v141_67, ↓v141_68, ↓v141_69, ↓v141_70, ↓v141_71, ↓v141_74, ↓v141_75, ↓v141_76, ↓v141_79, ↓v141_82, ↓v141_85, ↓v141_88, ↓v141_89, ↓v141_92, ↓v141_93, ↓v141_94, ↓v141_96, ↓v141_97, ↓v141_98, ↓v141_99, ↓v141_100, ↓v141_103, ↓v141_105, ↓v141_106, ↓v141_107, ↓v141_108, ↓v141_109, ↓v141_110, ↓v141_113, ↓v141_114, ↓v141_115, ↓v141_118, ↓v141_121, ↓v141_122, ↓v141_125, ↓v141_126, ↓v141_129, ↓v141_130, ↓v141_131, ↓v141_133, ↓v141_134, ↓v141_135, ↓v141_136, ↓v141_139, ↓v141_142, ↓v141_145, ↓v141_146, ↓v141_149, ↓v141_151, ↓v141_152, ↓v141_153, ↓v141_154, ↓v141_155, ↓v141_156, ↓v141_159, ↓v141_162, ↓v141_163, ↓v141_164, ↓v141_165, ↓v141_166, ↓v141_167, ↓v141_168, ↓v141_169, ↓v141_170, ↓v141_171, ↓v141_174, ↓v141_175, ↓v141_176, ↓v141_177, ↓v141_180, ↓v141_183, ↓v141_184, ↓v141_185, ↓v141_188, ↓v141_189, ↓v141_190, ↓v141_191, ↓v141_194, ↓v141_196, ↓v141_198, ↓v141_199, ↓v141_202, ↓v141_205, ↓v141_206, ↓v141_208, ↓v141_210, ↓v141_212, ↓v141_215, ↓v141_216, ↓v141_219, ↓v141_221, ↓v141_222, ↓v141_223, ↓v141_226, ↓v141_227, ↓v141_230, ↓v141_232, ↓v141_233, ↓v141_236, ↓v141_239, ↓v141_240, ↓v141_242, ↓v141_243, ↓v141_246, ↓v141_248, ↓v141_249, ↓v141_252, ↓v141_255, ↓v141_258, ↓v141_261, ↓v141_264, ↓v141_265, ↓qI_c, ↓qL_c, ↓qR_c, ↓pA_o, ↓qC_i, ↓qC_r, ↓oA_s, ↓gI_0, ↓gI_1, ↓gI_2, ↓gI_3, ↓gI_4, ↓gI_5, ↓gI_6, ↓gI_7, ↓gI_8, ↓gI_9, ↓gI_10, ↓gR_0, ↓gR_1, ↓gR_2, ↓gR_3, ↓gR_4, ↓gR_5, ↓gR_6, ↓gR_7, ↓gR_8, ↓gR_9, ↓gR_10, ↓sL_0, ↓sL_1, ↓sL_2, ↓sL_3, ↓sL_4, ↓sL_5, ↓sL_6, ↓sL_7, ↓sL_8, ↓sL_9, ↓sL_10, ↓rrf_si, ↓rrf_sg, ↓shO_si, ↓shO_sg, ↓shO_sr, ↓shA_si, ↓shA_sg, ↓shA_sr, ↓pAs_0, ↓pAs_i, ↓pAs_r, stk_n, stk_i, stk_l, stk_r, List.nil_append, List.cons_append, true_and, and_true, true_or, or_true, Nat.zero_add, dp_s, Nat.reduceAdd, le8_0, le8_1, le8_2, le8_3, le8_4, le8_5, le8_6, le8_7, le8_8, Classical.not_not, aT40, aT41, aT42, aT44, aT54, aT58, aT59, rT54, rT58, rT59, reduceIte, Nat.reduceEqDiff, qn_42, qn_44, true_implies, not_true_eq_false, not_false_eq_true, false_implies, le_T, T_48, nT (show i < 2147483648 by omega), ↓shO_of hs1.1.1, ↓rrf_of hs1.2.2.1.2.2.2.2.2.2.2.2, bI_t, i10]
      refine ⟨fun c => by omega, fun _ => ?_⟩
      refine f129 R1 (by omega) ⟨_, rfl, ?_⟩
      refine vc_X 20 _ _ _ _ _ _ _ ?_
      simp only [↓v141_0, ↓v141_1, ↓v141_2, ↓v141_3, ↓v141_4, ↓v141_5, ↓v141_7, ↓v141_10, ↓v141_11, ↓v141_14, ↓v141_15, ↓v141_16, ↓v141_19, ↓v141_20, ↓v141_21, ↓v141_24, ↓v141_27, ↓v141_28, ↓v141_31, ↓v141_32, ↓v141_33, ↓v141_34, ↓v141_35, ↓v141_38, ↓v141_39, ↓v141_40, ↓v141_41, ↓v141_44, ↓v141_47, ↓v141_48, ↓v141_51, ↓v141_53, ↓v141_54, ↓v141_55, ↓v141_56, ↓v141_57, ↓v141_58, ↓v141_59, ↓v141_60, ↓v141_61, ↓v141_64, ↓v141_66, ↓v141_67, ↓v141_68, ↓v141_69, ↓v141_70, ↓v141_71, ↓v141_74, ↓v141_75, ↓v141_76, ↓v141_79, ↓v141_82, ↓v141_85, ↓v141_88, ↓v141_89, ↓v141_92, ↓v141_93, ↓v141_94, ↓v141_96, ↓v141_97, ↓v141_98, ↓v141_99, ↓v141_100, ↓v141_103, ↓v141_105, ↓v141_106, ↓v141_107, ↓v141_108, ↓v141_109, ↓v141_110, ↓v141_113, ↓v141_114, ↓v141_115, ↓v141_118, ↓v141_121, ↓v141_122, ↓v141_125, ↓v141_126, ↓v141_129, ↓v141_130, ↓v141_131, ↓v141_133, ↓v141_134, ↓v141_135, ↓v141_136, ↓v141_139, ↓v141_142, ↓v141_145, ↓v141_146, ↓v141_149, ↓v141_151, ↓v141_152, ↓v141_153, ↓v141_154, ↓v141_155, ↓v141_156, ↓v141_159, ↓v141_162, ↓v141_163, ↓v141_164, ↓v141_165, ↓v141_166, ↓v141_167, ↓v141_168, ↓v141_169, ↓v141_170, ↓v141_171, ↓v141_174, ↓v141_175, ↓v141_176, ↓v141_177, ↓v141_180, ↓v141_183, ↓v141_184, ↓v141_185, ↓v141_188, ↓v141_189, ↓v141_190, ↓v141_191, ↓v141_194, ↓v141_196, ↓v141_198, ↓v141_199, ↓v141_202, ↓v141_205, ↓v141_206, ↓v141_208, ↓v141_210, ↓v141_212, ↓v141_215, ↓v141_216, ↓v141_219, ↓v141_221, ↓v141_222, ↓v141_223, ↓v141_226, ↓v141_227, ↓v141_230, ↓v141_232, ↓v141_233, ↓v141_236, ↓v141_239, ↓v141_240, ↓v141_242, ↓v141_243, ↓v141_246, ↓v141_248, ↓v141_249, ↓v141_252, ↓v141_255, ↓v141_258, ↓v141_261, ↓v141_264, ↓v141_265, ↓qI_c, ↓qL_c, ↓qR_c, ↓pA_o, ↓qC_i, ↓qC_r, ↓oA_s, ↓gI_0, ↓gI_1, ↓gI_2, ↓gI_3, ↓gI_4, ↓gI_5, ↓gI_6, ↓gI_7, ↓gI_8, ↓gI_9, ↓gI_10, ↓gR_0, ↓gR_1, ↓gR_2, ↓gR_3, ↓gR_4, ↓gR_5, ↓gR_6, ↓gR_7, ↓gR_8, ↓gR_9, ↓gR_10, ↓sL_0, ↓sL_1, ↓sL_2, ↓sL_3, ↓sL_4, ↓sL_5, ↓sL_6, ↓sL_7, ↓sL_8, ↓sL_9, ↓sL_10, ↓rrf_si, ↓rrf_sg, ↓shO_si, ↓shO_sg, ↓shO_sr, ↓shA_si, ↓shA_sg, ↓shA_sr, ↓pAs_0, ↓pAs_i, ↓pAs_r, stk_n, stk_i, stk_l, stk_r, List.nil_append, List.cons_append, true_and, and_true, true_or, or_true, Nat.zero_add, dp_s, Nat.reduceAdd, le8_0, le8_1, le8_2, le8_3, le8_4, le8_5, le8_6, le8_7, le8_8, Classical.not_not, aT40, aT41, aT42, aT44, aT54, aT58, aT59, rT54, rT58, rT59, reduceIte, Nat.reduceEqDiff, qn_42, qn_44, true_implies, not_true_eq_false, not_false_eq_true, false_implies]
      exact fin
    | false =>
      have gc : M1.it (r + 8) i = oI (s.ch i) := R1.2.2.2.1.2.1 i (by omega)
      refine vc_X 30 _ _ _ _ _ _ _ ?_
      simp only [↓v141_0, ↓v141_1, ↓v141_2, ↓v141_3, ↓v141_4, ↓v141_5, ↓v141_7, ↓v141_10, ↓v141_11, ↓v141_14, ↓v141_15, ↓v141_16, ↓v141_19, ↓v141_20, ↓v141_21, ↓v141_24, ↓v141_27, ↓v141_28, ↓v141_31, ↓v141_32, ↓v141_33, ↓v141_34, ↓v141_35, ↓v141_38, ↓v141_39, ↓v141_40, ↓v141_41, ↓v141_44, ↓v141_47, ↓v141_48, ↓v141_51, ↓v141_53, ↓v141_54, ↓v141_55, ↓v141_56, ↓v141_57, ↓v141_58, ↓v141_59, ↓v141_60, ↓v141_61, ↓v141_64, ↓v141_66, ↓v141_67, ↓v141_68, ↓v141_69, ↓v141_70, ↓v141_71, ↓v141_74, ↓v141_75, ↓v141_76, ↓v141_79, ↓v141_82, ↓v141_85, ↓v141_88, ↓v141_89, ↓v141_92, ↓v141_93, ↓v141_94, ↓v141_96, ↓v141_97, ↓v141_98, ↓v141_99, ↓v141_100, ↓v141_103, ↓v141_105, ↓v141_106, ↓v141_107, ↓v141_108, ↓v141_109, ↓v141_110, ↓v141_113, ↓v141_114, ↓v141_115, ↓v141_118, ↓v141_121, ↓v141_122, ↓v141_125, ↓v141_126, ↓v141_129, ↓v141_130, ↓v141_131, ↓v141_133, ↓v141_134, ↓v141_135, ↓v141_136, ↓v141_139, ↓v141_142, ↓v141_145, ↓v141_146, ↓v141_149, ↓v141_151, ↓v141_152, ↓v141_153, ↓v141_154, ↓v141_155, ↓v141_156, ↓v141_159, ↓v141_162, ↓v141_163, ↓v141_164, ↓v141_165, ↓v141_166, ↓v141_167, ↓v141_168, ↓v141_169, ↓v141_170, ↓v141_171, ↓v141_174, ↓v141_175, ↓v141_176, ↓v141_177, ↓v141_180, ↓v141_183, ↓v141_184, ↓v141_185, ↓v141_188, ↓v141_189, ↓v141_190, ↓v141_191, ↓v141_194, ↓v141_196, ↓v141_198, ↓v141_199, ↓v141_202, ↓v141_205, ↓v141_206, ↓v141_208, ↓v141_210, ↓v141_212, ↓v141_215, ↓v141_216, ↓v141_219, ↓v141_221, ↓v141_222, ↓v141_223, ↓v141_226, ↓v141_227, ↓v141_230, ↓v141_232, ↓v141_233, ↓v141_236, ↓v141_239, ↓v141_240, ↓v141_242, ↓v141_243, ↓v141_246, ↓v141_248, ↓v141_249, ↓v141_252, ↓v141_255, ↓v141_258, ↓v141_261, ↓v141_264, ↓v141_265, ↓qI_c, ↓qL_c, ↓qR_c, ↓pA_o, ↓qC_i, ↓qC_r, ↓oA_s, ↓gI_0, ↓gI_1, ↓gI_2, ↓gI_3, ↓gI_4, ↓gI_5, ↓gI_6, ↓gI_7, ↓gI_8, ↓gI_9, ↓gI_10, ↓gR_0, ↓gR_1, ↓gR_2, ↓gR_3, ↓gR_4, ↓gR_5, ↓gR_6, ↓gR_7, ↓gR_8, ↓gR_9, ↓gR_10, ↓sL_0, ↓sL_1, ↓sL_2, ↓sL_3, ↓sL_4, ↓sL_5, ↓sL_6, ↓sL_7, ↓sL_8, ↓sL_9, ↓sL_10, ↓rrf_si, ↓rrf_sg, ↓shO_si, ↓shO_sg, ↓shO_sr, ↓shA_si, ↓shA_sg, ↓shA_sr, ↓pAs_0, ↓pAs_i, ↓pAs_r, stk_n, stk_i, stk_l, stk_r, List.nil_append, List.cons_append, true_and, and_true, true_or, or_true, Nat.zero_add, dp_s, Nat.reduceAdd, le8_0, le8_1, le8_2, le8_3, le8_4, le8_5, le8_6, le8_7, le8_8, Classical.not_not, aT40, aT41, aT42, aT44, aT54, aT58, aT59, rT54, rT58, rT59, reduceIte, Nat.reduceEqDiff, qn_42, qn_44, true_implies, not_true_eq_false, not_false_eq_true, false_implies, le_T, T_48, nT (show i < 2147483648 by omega), ↓shO_of hs1.1.1, ↓rrf_of hs1.2.2.1.2.2.2.2.2.2.2.2, bI_f, i00, ↓rrf_of hs1.2.1.2.1, ↓shA_of hs1.2.2.2.1.2.2.2.2.2.2.2, nC (show i < 2147483648 by omega), gc]
      exact ⟨fun c => by omega, fun _ => ⟨inB_n (by omega) (by omega), fin⟩⟩
theorem nwG_congr {md p nb : Nat} {cl : List Nat} {D D2 : Nat → Nat → Bool} (h : ∀ j, j < nb → D j = D2 j) : nwG md p cl D nb = nwG md p cl D2 nb := by
  unfold nwG
  refine List.map_congr_left (fun j hj => ?_)
  rw [h j (List.mem_range.mp hj)]
theorem fr_blk {s : Ms} (o : On_ s) {mg : Bool} {e : Nat} {f : Nat → Bool} (cl : List Nat) {nb : Nat} (he : e < 8) (hn : s.pt e + nb ≤ 16) {i q : Nat} (hi : i < 48) (hq : noG (frS mg s.ch s.tb i) = some q) : q + nbS (vw s.dk (s.ws ++ nwM s.ws s.md (16 * e + s.pt e) cl (s.em e) f nb)) q ≤ 128 := by
  have hW := o.2.2.2.1
  have hpl : plO s.ch s.tb (some i) = some q := by
    cases mg with
    | true =>
      have hq : noG (plO s.ch s.tb (some i)) = some q := hq
      cases hp : plO s.ch s.tb (some i) with
      | none => rw [hp] at hq; cases hq
      | some v =>
        rw [hp] at hq
        unfold noG at hq
        split at hq
        · split at hq
          · cases hq
          · rename_i hv _
            cases hv
            exact hq
        · cases hq
    | false =>
      have hq : noG (s.ch i) = some q := hq
      cases hc : s.ch i with
      | none => rw [hc] at hq; cases hq
      | some v =>
        rw [hc] at hq
        unfold plO lkS
        show noG (orO (s.ch i) _) = _
        rw [hc]
        exact hq
  have hl : Lv s.ch s.tb q := Or.inl ⟨i, hi, hpl⟩
  have h128 := hl.lt hW
  have h1 := hW.2.2.2.2.2.1 q hl
  have h2 := hW.1 (q / 16) (by omega)
  have hnb : 1 ≤ nbS (vw s.dk s.ws) q := by unfold nbS; omega
  have ho : vw s.dk (s.ws ++ nwM s.ws s.md (16 * e + s.pt e) cl (s.em e) f nb) q = vw s.dk s.ws q := by
    refine vw_old ?_
    by_cases ce : q / 16 = e
    · rw [ce] at h1
      omega
    · omega
  have e2 : nbS (vw s.dk (s.ws ++ nwM s.ws s.md (16 * e + s.pt e) cl (s.em e) f nb)) q = nbS (vw s.dk s.ws) q := by
    unfold nbS
    rw [ho]
  rw [e2]
  omega
theorem e141 {d c m t : Nat} {M : Mm} {k : mQ} {r : Nat} {s : Ms} {mg : Bool} (h : RP M r s) (o : On_ s) (b : BdM c m t s) (hc : c < 512) (hm : m ≤ 100) (ht : t ≤ 100) (hw : s.ws.length + tbB mg s ≤ 160) (hw1 : s.ws.length < 160) (hk0 : ∀ M', tkE s.pt s.op (tbB mg s) 1 = none → RP M' r s → Rf r (PF r) [38, 39] M M' → k (some (.inl (-1))) M') (hk1 : ∀ e M', tkE s.pt s.op (tbB mg s) 1 = some e → RP M' r (mkT0 mg e s) → M'.it r 38 = nI s.ws.length → M'.it r 39 = nI (s.ws.length + tbB mg s) → (∀ q, q < 48 → M'.it (r + 23) q = oI (frS mg s.ch s.tb q)) → Rf r (fun y => PMk r y ∨ y = r + 23) [9, 12, 14, 15, 38, 39] M M' → k (some (.inl (nI (16 * e + s.pt e)))) M') : XC (d + 5) 141 [.inr (some r), .inl (bI mg)] M k := by
  have hs := h.1
  have htl : (tbL (frS mg s.ch s.tb)).length = 1 + 3 * nE (frS mg s.ch s.tb) 48 := by
    show (_ :: _).length = _
    rw [List.length_cons, spl_len]
    omega
  have hN := nE_le (frS mg s.ch s.tb) 48
  have htb : tbB mg s = (1 + 3 * nE (frS mg s.ch s.tb) 48 + 23) / 16 := by
    unfold tbB
    rw [htl]
  refine xc ?_
  show X (d + 4) 141 0 [some (.inr (some r)), some (.inl (bI mg)), none, none, none, none] [] M k
  refine vc_X 20 _ _ _ _ _ _ _ ?_
  simp only [↓v141_0, ↓v141_1, ↓v141_2, ↓v141_3, ↓v141_4, ↓v141_5, ↓v141_7, ↓v141_10, ↓v141_11, ↓v141_14, ↓v141_15, ↓v141_16, ↓v141_19, ↓v141_20, ↓v141_21, ↓v141_24, ↓v141_27, ↓v141_28, ↓v141_31, ↓v141_32, ↓v141_33, ↓v141_34, ↓v141_35, ↓v141_38, ↓v141_39, ↓v141_40, ↓v141_41, ↓v141_44, ↓v141_47, ↓v141_48, ↓v141_51, ↓v141_53, ↓v141_54, ↓v141_55, ↓v141_56, ↓v141_57, ↓v141_58, ↓v141_59, ↓v141_60, ↓v141_61, ↓v141_64, ↓v141_66, ↓v141_67, ↓v141_68, ↓v141_69, ↓v141_70, ↓v141_71, ↓v141_74, ↓v141_75, ↓v141_76, ↓v141_79, ↓v141_82, ↓v141_85, ↓v141_88, ↓v141_89, ↓v141_92, ↓v141_93, ↓v141_94, ↓v141_96, ↓v141_97, ↓v141_98, ↓v141_99, ↓v141_100, ↓v141_103, ↓v141_105, ↓v141_106, ↓v141_107, ↓v141_108, ↓v141_109, ↓v141_110, ↓v141_113, ↓v141_114, ↓v141_115, ↓v141_118, ↓v141_121, ↓v141_122, ↓v141_125, ↓v141_126, ↓v141_129, ↓v141_130, ↓v141_131, ↓v141_133, ↓v141_134, ↓v141_135, ↓v141_136, ↓v141_139, ↓v141_142, ↓v141_145, ↓v141_146, ↓v141_149, ↓v141_151, ↓v141_152, ↓v141_153, ↓v141_154, ↓v141_155, ↓v141_156, ↓v141_159, ↓v141_162, ↓v141_163, ↓v141_164, ↓v141_165, ↓v141_166, ↓v141_167, ↓v141_168, ↓v141_169, ↓v141_170, ↓v141_171, ↓v141_174, ↓v141_175, ↓v141_176, ↓v141_177, ↓v141_180, ↓v141_183, ↓v141_184, ↓v141_185, ↓v141_188, ↓v141_189, ↓v141_190, ↓v141_191, ↓v141_194, ↓v141_196, ↓v141_198, ↓v141_199, ↓v141_202, ↓v141_205, ↓v141_206, ↓v141_208, ↓v141_210, ↓v141_212, ↓v141_215, ↓v141_216, ↓v141_219, ↓v141_221, ↓v141_222, ↓v141_223, ↓v141_226, ↓v141_227, ↓v141_230, ↓v141_232, ↓v141_233, ↓v141_236, ↓v141_239, ↓v141_240, ↓v141_242, ↓v141_243, ↓v141_246, ↓v141_248, ↓v141_249, ↓v141_252, ↓v141_255, ↓v141_258, ↓v141_261, ↓v141_264, ↓v141_265, ↓qI_c, ↓qL_c, ↓qR_c, ↓pA_o, ↓qC_i, ↓qC_r, ↓oA_s, ↓gI_0, ↓gI_1, ↓gI_2, ↓gI_3, ↓gI_4, ↓gI_5, ↓gI_6, ↓gI_7, ↓gI_8, ↓gI_9, ↓gI_10, ↓gR_0, ↓gR_1, ↓gR_2, ↓gR_3, ↓gR_4, ↓gR_5, ↓gR_6, ↓gR_7, ↓gR_8, ↓gR_9, ↓gR_10, ↓sL_0, ↓sL_1, ↓sL_2, ↓sL_3, ↓sL_4, ↓sL_5, ↓sL_6, ↓sL_7, ↓sL_8, ↓sL_9, ↓sL_10, ↓rrf_si, ↓rrf_sg, ↓shO_si, ↓shO_sg, ↓shO_sr, ↓shA_si, ↓shA_sg, ↓shA_sr, ↓pAs_0, ↓pAs_i, ↓pAs_r, stk_n, stk_i, stk_l, stk_r, List.nil_append, List.cons_append, true_and, and_true, true_or, or_true, Nat.zero_add, dp_s, Nat.reduceAdd, le8_0, le8_1, le8_2, le8_3, le8_4, le8_5, le8_6, le8_7, le8_8, Classical.not_not, aT40, aT41, aT42, aT44, aT54, aT58, aT59, rT54, rT58, rT59, reduceIte, Nat.reduceEqDiff, qn_42, qn_44, true_implies, not_true_eq_false, not_false_eq_true, false_implies]
  refine tabA h (fun M1 h23 h19 o1 => ?_) 48 0 M (by omega) (fun q hq => by omega) (fun j v hj => by cases hj) Rf.rf_
  have hs1 := hs.oi o1.1
  generalize hNN : nE (frS mg s.ch s.tb) 48 = N at htl hN htb
  generalize hM2 : M1.si (r + 19) 6 (nI N).toInt8.toInt32.toInt8.toInt32 = M2
  have f14 : M2.it r 14 = nI s.ws.length := by rw [← hM2, si_it, if_neg (by omega), o1.2 14 (by simp)]; exact h.2.1.2.1
  generalize hM3 : M2.si r 38 (nI s.ws.length) = M3
  have o2 : Rf r (PF r) [38, 39] M M2 := by rw [← hM2]; exact (o1.mono (Fs := [38, 39]) (fun _ q => q) (fun _ q => by cases q)).row (Or.inl rfl) (by omega)
  have o3 : Rf r (PF r) [38, 39] M M3 := by rw [← hM3]; exact o2.fld (by simp)
  have h3 : RP M3 r s := h.rf0 o3 (fun y q => Or.inr (by unfold PF at q; omega)) (by decide)
  have e1 : (1 : Int32) + 3 * nI N = nI (1 + 3 * N) := by rw [n_1, n_3, pk_mul, nI_add]
  have c6 : Int32.toNatClampNeg 6 = 6 := rfl
  refine vc_X 40 _ _ _ _ _ _ _ ?_
  simp only [↓v141_0, ↓v141_1, ↓v141_2, ↓v141_3, ↓v141_4, ↓v141_5, ↓v141_7, ↓v141_10, ↓v141_11, ↓v141_14, ↓v141_15, ↓v141_16, ↓v141_19, ↓v141_20, ↓v141_21, ↓v141_24, ↓v141_27, ↓v141_28, ↓v141_31, ↓v141_32, ↓v141_33, ↓v141_34, ↓v141_35, ↓v141_38, ↓v141_39, ↓v141_40, ↓v141_41, ↓v141_44, ↓v141_47, ↓v141_48, ↓v141_51, ↓v141_53, ↓v141_54, ↓v141_55, ↓v141_56, ↓v141_57, ↓v141_58, ↓v141_59, ↓v141_60, ↓v141_61, ↓v141_64, ↓v141_66, ↓v141_67, ↓v141_68, ↓v141_69, ↓v141_70, ↓v141_71, ↓v141_74, ↓v141_75, ↓v141_76, ↓v141_79, ↓v141_82, ↓v141_85, ↓v141_88, ↓v141_89, ↓v141_92, ↓v141_93, ↓v141_94, ↓v141_96, ↓v141_97, ↓v141_98, ↓v141_99, ↓v141_100, ↓v141_103, ↓v141_105, ↓v141_106, ↓v141_107, ↓v141_108, ↓v141_109, ↓v141_110, ↓v141_113, ↓v141_114, ↓v141_115, ↓v141_118, ↓v141_121, ↓v141_122, ↓v141_125, ↓v141_126, ↓v141_129, ↓v141_130, ↓v141_131, ↓v141_133, ↓v141_134, ↓v141_135, ↓v141_136, ↓v141_139, ↓v141_142, ↓v141_145, ↓v141_146, ↓v141_149, ↓v141_151, ↓v141_152, ↓v141_153, ↓v141_154, ↓v141_155, ↓v141_156, ↓v141_159, ↓v141_162, ↓v141_163, ↓v141_164, ↓v141_165, ↓v141_166, ↓v141_167, ↓v141_168, ↓v141_169, ↓v141_170, ↓v141_171, ↓v141_174, ↓v141_175, ↓v141_176, ↓v141_177, ↓v141_180, ↓v141_183, ↓v141_184, ↓v141_185, ↓v141_188, ↓v141_189, ↓v141_190, ↓v141_191, ↓v141_194, ↓v141_196, ↓v141_198, ↓v141_199, ↓v141_202, ↓v141_205, ↓v141_206, ↓v141_208, ↓v141_210, ↓v141_212, ↓v141_215, ↓v141_216, ↓v141_219, ↓v141_221, ↓v141_222, ↓v141_223, ↓v141_226, ↓v141_227, ↓v141_230, ↓v141_232, ↓v141_233, ↓v141_236, ↓v141_239, ↓v141_240, ↓v141_242, ↓v141_243, ↓v141_246, ↓v141_248, ↓v141_249, ↓v141_252, ↓v141_255, ↓v141_258, ↓v141_261, ↓v141_264, ↓v141_265, ↓qI_c, ↓qL_c, ↓qR_c, ↓pA_o, ↓qC_i, ↓qC_r, ↓oA_s, ↓gI_0, ↓gI_1, ↓gI_2, ↓gI_3, ↓gI_4, ↓gI_5, ↓gI_6, ↓gI_7, ↓gI_8, ↓gI_9, ↓gI_10, ↓gR_0, ↓gR_1, ↓gR_2, ↓gR_3, ↓gR_4, ↓gR_5, ↓gR_6, ↓gR_7, ↓gR_8, ↓gR_9, ↓gR_10, ↓sL_0, ↓sL_1, ↓sL_2, ↓sL_3, ↓sL_4, ↓sL_5, ↓sL_6, ↓sL_7, ↓sL_8, ↓sL_9, ↓sL_10, ↓rrf_si, ↓rrf_sg, ↓shO_si, ↓shO_sg, ↓shO_sr, ↓shA_si, ↓shA_sg, ↓shA_sr, ↓pAs_0, ↓pAs_i, ↓pAs_r, stk_n, stk_i, stk_l, stk_r, List.nil_append, List.cons_append, true_and, and_true, true_or, or_true, Nat.zero_add, dp_s, Nat.reduceAdd, le8_0, le8_1, le8_2, le8_3, le8_4, le8_5, le8_6, le8_7, le8_8, Classical.not_not, aT40, aT41, aT42, aT44, aT54, aT58, aT59, rT54, rT58, rT59, reduceIte, Nat.reduceEqDiff, qn_42, qn_44, true_implies, not_true_eq_false, not_false_eq_true, false_implies, le_T, T_48, nT (show 48 < 2147483648 by omega), ↓shO_of hs1.1.1, ↓rrf_of hs1.2.2.1.2.2.2.2.1, ↓shA_of hs1.2.2.2.2.2.2.2.1, c6, hM2, f14, hM3, e1]
  refine ⟨fun _ => ⟨show inB (nI 6) 256 from inB_n (by omega) (by omega), ?_⟩, fun c => absurd (by decide) c⟩
  have i1 : (1 : Int32) = nI 1 := rfl
  have i2 : (2 : Int32) = nI 2 := rfl
  have i0 : (0 : Int32) = nI 0 := rfl
  rw [i1, i2, i0]
  refine e121n (ct := tbL (frS mg s.ch s.tb)) htl h3 o b hc hm ht (by rw [← htb]; exact hw) (by omega) (by omega) (by omega) (fun v hv => ?_) (fun j v hj => ?_) (by omega) (by omega) (fun htk => ⟨_, rfl, ?_⟩) (fun e M4 htk h4 o4 => ⟨_, rfl, ?_⟩)
  · exact tbL_lt (frS_spOK o mg) v hv
  · cases j with
    | zero =>
      unfold tbL at hj
      rw [List.getElem?_cons_zero, hNN] at hj
      cases hj
      rw [← hM3, si_it, if_neg (by omega), ← hM2, si_it, if_pos ⟨rfl, rfl⟩]
      exact b8 (by omega)
    | succ j =>
      unfold tbL at hj
      rw [List.getElem?_cons_succ] at hj
      rw [← hM3, si_it, if_neg (by omega), ← hM2, si_it, if_neg (fun z => by omega), show 6 + (j + 1) = 7 + j by omega]
      exact h19 j v hj
  · rw [← htb] at htk
    refine vc_X 40 _ _ _ _ _ _ _ ?_
    simp only [↓v141_0, ↓v141_1, ↓v141_2, ↓v141_3, ↓v141_4, ↓v141_5, ↓v141_7, ↓v141_10, ↓v141_11, ↓v141_14, ↓v141_15, ↓v141_16, ↓v141_19, ↓v141_20, ↓v141_21, ↓v141_24, ↓v141_27, ↓v141_28, ↓v141_31, ↓v141_32, ↓v141_33, ↓v141_34, ↓v141_35, ↓v141_38, ↓v141_39, ↓v141_40, ↓v141_41, ↓v141_44, ↓v141_47, ↓v141_48, ↓v141_51, ↓v141_53, ↓v141_54, ↓v141_55, ↓v141_56, ↓v141_57, ↓v141_58, ↓v141_59, ↓v141_60, ↓v141_61, ↓v141_64, ↓v141_66, ↓v141_67, ↓v141_68, ↓v141_69, ↓v141_70, ↓v141_71, ↓v141_74, ↓v141_75, ↓v141_76, ↓v141_79, ↓v141_82, ↓v141_85, ↓v141_88, ↓v141_89, ↓v141_92, ↓v141_93, ↓v141_94, ↓v141_96, ↓v141_97, ↓v141_98, ↓v141_99, ↓v141_100, ↓v141_103, ↓v141_105, ↓v141_106, ↓v141_107, ↓v141_108, ↓v141_109, ↓v141_110, ↓v141_113, ↓v141_114, ↓v141_115, ↓v141_118, ↓v141_121, ↓v141_122, ↓v141_125, ↓v141_126, ↓v141_129, ↓v141_130, ↓v141_131, ↓v141_133, ↓v141_134, ↓v141_135, ↓v141_136, ↓v141_139, ↓v141_142, ↓v141_145, ↓v141_146, ↓v141_149, ↓v141_151, ↓v141_152, ↓v141_153, ↓v141_154, ↓v141_155, ↓v141_156, ↓v141_159, ↓v141_162, ↓v141_163, ↓v141_164, ↓v141_165, ↓v141_166, ↓v141_167, ↓v141_168, ↓v141_169, ↓v141_170, ↓v141_171, ↓v141_174, ↓v141_175, ↓v141_176, ↓v141_177, ↓v141_180, ↓v141_183, ↓v141_184, ↓v141_185, ↓v141_188, ↓v141_189, ↓v141_190, ↓v141_191, ↓v141_194, ↓v141_196, ↓v141_198, ↓v141_199, ↓v141_202, ↓v141_205, ↓v141_206, ↓v141_208, ↓v141_210, ↓v141_212, ↓v141_215, ↓v141_216, ↓v141_219, ↓v141_221, ↓v141_222, ↓v141_223, ↓v141_226, ↓v141_227, ↓v141_230, ↓v141_232, ↓v141_233, ↓v141_236, ↓v141_239, ↓v141_240, ↓v141_242, ↓v141_243, ↓v141_246, ↓v141_248, ↓v141_249, ↓v141_252, ↓v141_255, ↓v141_258, ↓v141_261, ↓v141_264, ↓v141_265, ↓qI_c, ↓qL_c, ↓qR_c, ↓pA_o, ↓qC_i, ↓qC_r, ↓oA_s, ↓gI_0, ↓gI_1, ↓gI_2, ↓gI_3, ↓gI_4, ↓gI_5, ↓gI_6, ↓gI_7, ↓gI_8, ↓gI_9, ↓gI_10, ↓gR_0, ↓gR_1, ↓gR_2, ↓gR_3, ↓gR_4, ↓gR_5, ↓gR_6, ↓gR_7, ↓gR_8, ↓gR_9, ↓gR_10, ↓sL_0, ↓sL_1, ↓sL_2, ↓sL_3, ↓sL_4, ↓sL_5, ↓sL_6, ↓sL_7, ↓sL_8, ↓sL_9, ↓sL_10, ↓rrf_si, ↓rrf_sg, ↓shO_si, ↓shO_sg, ↓shO_sr, ↓shA_si, ↓shA_sg, ↓shA_sr, ↓pAs_0, ↓pAs_i, ↓pAs_r, stk_n, stk_i, stk_l, stk_r, List.nil_append, List.cons_append, true_and, and_true, true_or, or_true, Nat.zero_add, dp_s, Nat.reduceAdd, le8_0, le8_1, le8_2, le8_3, le8_4, le8_5, le8_6, le8_7, le8_8, Classical.not_not, aT40, aT41, aT42, aT44, aT54, aT58, aT59, rT54, rT58, rT59, reduceIte, Nat.reduceEqDiff, qn_42, qn_44, true_implies, not_true_eq_false, not_false_eq_true, false_implies, ↓shO_of h3.1.1.1, m11]
    have o5 : Rf r (PF r) [38, 39] M (M3.si r 39 (M3.it r 14)) := o3.fld (by simp)
    exact hk0 _ htk (h.rf0 o5 (fun y q => Or.inr (by unfold PF at q; omega)) (by decide)) o5
  · rw [← htb] at htk
    obtain ⟨e8, en⟩ := tkE_ok h.2.2.2.2.2.2.2.2 htk
    have hl5 : ((tbL (frS mg s.ch s.tb)).length + 23) / 16 = tbB mg s := rfl
    have hww : (mkC 2 0 (tbL (frS mg s.ch s.tb)) e s).ws = s.ws ++ nwM s.ws s.md (16 * e + s.pt e) (chL 2 0 (tbL (frS mg s.ch s.tb)) s.st) (s.em e) (fun _ => false) (tbB mg s) := rfl
    have g14 : M4.it r 14 = nI (s.ws.length + tbB mg s) := by rw [h4.2.1.2.1, hww, List.length_append, nwM_len]
    have g38 : M4.it r 38 = nI s.ws.length := by rw [o4.2 38 (by simp), ← hM3, si_it, if_pos ⟨rfl, rfl⟩]
    generalize hM5 : M4.si r 39 (nI (s.ws.length + tbB mg s)) = M5
    have o5 : Rf r (fun _ => False) [39] M4 M5 := by rw [← hM5]; exact Rf.rf_.fld (by simp)
    have h5 : RP M5 r (mkC 2 0 (tbL (frS mg s.ch s.tb)) e s) := h4.rf0 o5 (fun _ q => q.elim) (by decide)
    have k38 : M5.it r 38 = nI s.ws.length := by rw [o5.2 38 (by simp)]; exact g38
    have k39 : M5.it r 39 = nI (s.ws.length + tbB mg s) := by rw [← hM5, si_it, if_pos ⟨rfl, rfl⟩]
    have o35 : Rf r (fun y => PMk r y ∨ y = r + 23) [9, 12, 14, 15, 38, 39] M M5 := ((o3.mono (P := fun y => PMk r y ∨ y = r + 23) (Fs := [9, 12, 14, 15, 38, 39]) (fun y q => by unfold PF at q; unfold PMk; omega) (by decide)).trans o4 (fun _ q => Or.inl q) (by decide)).trans o5 (fun _ q => q.elim) (by decide)
    have k23 : ∀ q, q < 48 → M5.it (r + 23) q = oI (frS mg s.ch s.tb q) := fun q hq => by
      rw [o5.at_ (by omega) (fun q => q), o4.at_ (by omega) (by unfold PMk PW; omega), ← hM3, si_it, if_neg (by omega), ← hM2, si_it, if_neg (by omega)]
      exact h23 q hq
    refine vc_X 40 _ _ _ _ _ _ _ ?_
    simp only [↓v141_0, ↓v141_1, ↓v141_2, ↓v141_3, ↓v141_4, ↓v141_5, ↓v141_7, ↓v141_10, ↓v141_11, ↓v141_14, ↓v141_15, ↓v141_16, ↓v141_19, ↓v141_20, ↓v141_21, ↓v141_24, ↓v141_27, ↓v141_28, ↓v141_31, ↓v141_32, ↓v141_33, ↓v141_34, ↓v141_35, ↓v141_38, ↓v141_39, ↓v141_40, ↓v141_41, ↓v141_44, ↓v141_47, ↓v141_48, ↓v141_51, ↓v141_53, ↓v141_54, ↓v141_55, ↓v141_56, ↓v141_57, ↓v141_58, ↓v141_59, ↓v141_60, ↓v141_61, ↓v141_64, ↓v141_66, ↓v141_67, ↓v141_68, ↓v141_69, ↓v141_70, ↓v141_71, ↓v141_74, ↓v141_75, ↓v141_76, ↓v141_79, ↓v141_82, ↓v141_85, ↓v141_88, ↓v141_89, ↓v141_92, ↓v141_93, ↓v141_94, ↓v141_96, ↓v141_97, ↓v141_98, ↓v141_99, ↓v141_100, ↓v141_103, ↓v141_105, ↓v141_106, ↓v141_107, ↓v141_108, ↓v141_109, ↓v141_110, ↓v141_113, ↓v141_114, ↓v141_115, ↓v141_118, ↓v141_121, ↓v141_122, ↓v141_125, ↓v141_126, ↓v141_129, ↓v141_130, ↓v141_131, ↓v141_133, ↓v141_134, ↓v141_135, ↓v141_136, ↓v141_139, ↓v141_142, ↓v141_145, ↓v141_146, ↓v141_149, ↓v141_151, ↓v141_152, ↓v141_153, ↓v141_154, ↓v141_155, ↓v141_156, ↓v141_159, ↓v141_162, ↓v141_163, ↓v141_164, ↓v141_165, ↓v141_166, ↓v141_167, ↓v141_168, ↓v141_169, ↓v141_170, ↓v141_171, ↓v141_174, ↓v141_175, ↓v141_176, ↓v141_177, ↓v141_180, ↓v141_183, ↓v141_184, ↓v141_185, ↓v141_188, ↓v141_189, ↓v141_190, ↓v141_191, ↓v141_194, ↓v141_196, ↓v141_198, ↓v141_199, ↓v141_202, ↓v141_205, ↓v141_206, ↓v141_208, ↓v141_210, ↓v141_212, ↓v141_215, ↓v141_216, ↓v141_219, ↓v141_221, ↓v141_222, ↓v141_223, ↓v141_226, ↓v141_227, ↓v141_230, ↓v141_232, ↓v141_233, ↓v141_236, ↓v141_239, ↓v141_240, ↓v141_242, ↓v141_243, ↓v141_246, ↓v141_248, ↓v141_249, ↓v141_252, ↓v141_255, ↓v141_258, ↓v141_261, ↓v141_264, ↓v141_265, ↓qI_c, ↓qL_c, ↓qR_c, ↓pA_o, ↓qC_i, ↓qC_r, ↓oA_s, ↓gI_0, ↓gI_1, ↓gI_2, ↓gI_3, ↓gI_4, ↓gI_5, ↓gI_6, ↓gI_7, ↓gI_8, ↓gI_9, ↓gI_10, ↓gR_0, ↓gR_1, ↓gR_2, ↓gR_3, ↓gR_4, ↓gR_5, ↓gR_6, ↓gR_7, ↓gR_8, ↓gR_9, ↓gR_10, ↓sL_0, ↓sL_1, ↓sL_2, ↓sL_3, ↓sL_4, ↓sL_5, ↓sL_6, ↓sL_7, ↓sL_8, ↓sL_9, ↓sL_10, ↓rrf_si, ↓rrf_sg, ↓shO_si, ↓shO_sg, ↓shO_sr, ↓shA_si, ↓shA_sg, ↓shA_sr, ↓pAs_0, ↓pAs_i, ↓pAs_r, stk_n, stk_i, stk_l, stk_r, List.nil_append, List.cons_append, true_and, and_true, true_or, or_true, Nat.zero_add, dp_s, Nat.reduceAdd, le8_0, le8_1, le8_2, le8_3, le8_4, le8_5, le8_6, le8_7, le8_8, Classical.not_not, aT40, aT41, aT42, aT44, aT54, aT58, aT59, rT54, rT58, rT59, reduceIte, Nat.reduceEqDiff, qn_42, qn_44, true_implies, not_true_eq_false, not_false_eq_true, false_implies, ↓shO_of h4.1.1.1, g14, hM5, nI_nm (show 16 * e + s.pt e < 2147483648 by omega) (show ((-1 : Int32)).toInt < 0 by decide), k38]
    have hB : BtI s.dk s.ws := b.2.2.2.1
    have hcl : ∀ v, v ∈ chL 2 0 (tbL (frS mg s.ch s.tb)) s.st → v < 256 := chL_lt (by omega) (by omega) (tbL_lt (frS_spOK o mg)) (by omega)
    have hS0 : nwM s.ws s.md (16 * e + s.pt e) (chL 2 0 (tbL (frS mg s.ch s.tb)) s.st) (s.em e) (fun _ => false) (tbB mg s) = nwG s.md (16 * e + s.pt e) (chL 2 0 (tbL (frS mg s.ch s.tb)) s.st) (dpD s.ws (vw s.dk (s.ws ++ nwM s.ws s.md (16 * e + s.pt e) (chL 2 0 (tbL (frS mg s.ch s.tb)) s.st) (s.em e) (fun _ => false) (tbB mg s))) (frS mg s.ch s.tb) (s.em e) 0 0) (tbB mg s) := by
      rw [nwG_M]
      refine nwG_congr (fun j hj => ?_)
      funext n
      unfold dpD
      rw [if_neg (by omega), tieK_0]
      split <;> rfl
    refine tieL (ws := s.ws) (md := s.md) (p := 16 * e + s.pt e) (nb := tbB mg s) (cl := chL 2 0 (tbL (frS mg s.ch s.tb)) s.st) (o := s.em e) (fr := frS mg s.ch s.tb) (dk := s.dk) (S := vw s.dk (s.ws ++ nwM s.ws s.md (16 * e + s.pt e) (chL 2 0 (tbL (frS mg s.ch s.tb)) s.st) (s.em e) (fun _ => false) (tbB mg s))) (M0 := M5) o.1.1 hB hcl hw hw1 (by omega) (frS_spOK o mg) (vw_g _ _) h5.1 (by rw [o5.2 14 (by simp)]; exact g14) k38 k39 h5.2.2.1.2.1 k23 (fun M6 w6 o6 => ?_) (tbB mg s) 0 M5 none (by omega) (by rw [← hS0]; exact h5.2.2.2.1.2.2.2) Rf.rf_
    have hfin : s.ws ++ nwG s.md (16 * e + s.pt e) (chL 2 0 (tbL (frS mg s.ch s.tb)) s.st) (dpD s.ws (vw s.dk (s.ws ++ nwM s.ws s.md (16 * e + s.pt e) (chL 2 0 (tbL (frS mg s.ch s.tb)) s.st) (s.em e) (fun _ => false) (tbB mg s))) (frS mg s.ch s.tb) (s.em e) (tbB mg s) 0) (tbB mg s) = tbWs mg e s := by
      unfold tbWs
      rw [nwG_M (f := tieD _ _ _)]
      congr 1
      refine nwG_congr (fun j hj => ?_)
      funext n
      unfold dpD
      rw [if_pos hj, tieK_48 (fun i q hi hq => fr_blk o _ e8 en hi hq)]
    rw [hfin] at w6
    refine hk1 e M6 htk ?_ (by rw [o6.2 38 (by simp)]; exact k38) (by rw [o6.2 39 (by simp)]; exact k39) (fun q hq => by rw [o6.at_ (by omega) (by omega)]; exact k23 q hq) (o35.trans o6 (fun y q => Or.inl (by unfold PMk PW; omega)) (by decide))
    refine h5.uW o6 (by decide) ⟨by omega, by omega, by omega, by omega, by omega, by omega, by omega, by omega, by omega, by omega⟩ ?_ ?_ w6
    · rw [o6.2 14 (by simp), o5.2 14 (by simp), g14]
      show _ = nI (mkTb mg e s).ws.length
      rw [tbWs_len]
    · refine h5.2.2.1.2.2.2.2.mk (fun j => o6.at_ (by omega) (by omega) j) rfl rfl (fun w q hw2 hq => ?_)
      rcases List.mem_append.mp hw2 with hw2 | hw2
      · exact List.mem_append_left _ hw2
      · obtain ⟨i, -, -, -, hr, -⟩ := nwM_mem hw2
        rw [hr] at hq
        cases hq
