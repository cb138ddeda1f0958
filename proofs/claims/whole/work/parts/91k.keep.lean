/-! the reference: keep, undo, put -/
def Kp (r : Nat) (M0 M : Mm) : Prop := (∀ e, e < 8 → M.it (r + 6) (2 * e) = M0.it (r + 4) e ∧ M.it (r + 6) (2 * e + 1) = M0.it (r + 5) e) ∧ (∀ q, q < 48 → M.it (r + 6) (16 + q) = M0.it (r + 8) q) ∧ M.it (r + 6) 64 = M0.it r 9 ∧ M.it (r + 6) 65 = M0.it r 12 ∧ M.it (r + 6) 66 = M0.it r 14 ∧ M.it (r + 6) 67 = M0.it r 15
theorem e120 {d : Nat} {M : Mm} {k : mQ} {r : Nat} (hs : RS M r) (hk : ∀ M', Kp r M M' → Rf r (· = r + 6) [] M M' → k none M') : XC (d + 1) 120 [.inr (some r)] M k := by
  have lop2 : ∀ m i M', i + m = 48 → Rf r (· = r + 6) [] M M' → (∀ e, e < 8 → M'.it (r + 6) (2 * e) = M.it (r + 4) e ∧ M'.it (r + 6) (2 * e + 1) = M.it (r + 5) e) → (∀ q, q < i → M'.it (r + 6) (16 + q) = M.it (r + 8) q) → X d 120 48 [some (.inr (some r)), some (.inl (nI (16 + i))), some (.inl (nI i))] [] M' k := by
    intro m
    induction m with
    | zero =>
      intro i M' hi o h1 h2
      have e : i = 48 := by omega
      subst e
      have hs' := hs.oi o.1
      generalize hM1 : M'.si (r + 6) 64 (M'.it r 9) = M1
      generalize hM2 : M1.si (r + 6) 65 (M1.it r 12) = M2
      generalize hM3 : M2.si (r + 6) 66 (M2.it r 14) = M3
      have n65 : nI 64 + 1 = nI 65 := rfl
      have n66 : nI 65 + 1 = nI 66 := rfl
      have n67 : nI 66 + 1 = nI 67 := rfl
      have n64 : nI (16 + 48) = nI 64 := rfl
      refine vc_X 60 _ _ _ _ _ _ _ ?_
      simp only [↓v120_0, ↓v120_1, ↓v120_2, ↓v120_3, ↓v120_4, ↓v120_5, ↓v120_7, ↓v120_10, ↓v120_11, ↓v120_14, ↓v120_15, ↓v120_18, ↓v120_19, ↓v120_22, ↓v120_23, ↓v120_24, ↓v120_25, ↓v120_26, ↓v120_29, ↓v120_30, ↓v120_33, ↓v120_34, ↓v120_37, ↓v120_38, ↓v120_39, ↓v120_40, ↓v120_43, ↓v120_46, ↓v120_47, ↓v120_48, ↓v120_49, ↓v120_51, ↓v120_54, ↓v120_55, ↓v120_58, ↓v120_59, ↓v120_62, ↓v120_63, ↓v120_66, ↓v120_67, ↓v120_68, ↓v120_69, ↓v120_72, ↓v120_75, ↓v120_76, ↓v120_79, ↓v120_80, ↓v120_83, ↓v120_84, ↓v120_87, ↓v120_88, ↓v120_89, ↓v120_92, ↓v120_93, ↓v120_96, ↓v120_97, ↓v120_100, ↓v120_101, ↓v120_102, ↓v120_105, ↓v120_106, ↓v120_109, ↓v120_110, ↓v120_113, ↓v120_114, ↓v120_115, ↓v120_118, ↓v120_119, ↓v120_120, ↓v120_123, ↓v120_124, ↓qI_c, ↓qL_c, ↓qR_c, ↓pA_o, ↓qC_i, ↓qC_r, ↓oA_s, ↓gI_0, ↓gI_1, ↓gI_2, ↓gI_3, ↓gI_4, ↓gI_5, ↓gI_6, ↓gI_7, ↓gI_8, ↓gI_9, ↓gI_10, ↓gR_0, ↓gR_1, ↓gR_2, ↓gR_3, ↓gR_4, ↓gR_5, ↓gR_6, ↓gR_7, ↓gR_8, ↓gR_9, ↓gR_10, ↓sL_0, ↓sL_1, ↓sL_2, ↓sL_3, ↓sL_4, ↓sL_5, ↓sL_6, ↓sL_7, ↓sL_8, ↓sL_9, ↓sL_10, ↓rrf_si, ↓rrf_sg, ↓shO_si, ↓shO_sg, ↓shO_sr, ↓shA_si, ↓shA_sg, ↓shA_sr, ↓pAs_0, ↓pAs_i, ↓pAs_r, stk_n, stk_i, stk_l, stk_r, List.nil_append, List.cons_append, true_and, and_true, true_or, or_true, Nat.zero_add, dp_s, Nat.reduceAdd, le8_0, le8_1, le8_2, le8_3, le8_4, le8_5, le8_6, le8_7, le8_8, Classical.not_not, aT40, aT41, aT42, aT44, aT54, aT58, aT59, rT54, rT58, rT59, reduceIte, Nat.reduceEqDiff, qn_42, qn_44, true_implies, not_true_eq_false, not_false_eq_true, false_implies, n64, le_T, T_48, nT (show 48 < 2147483648 by omega), Int.le_refl, ↓shO_of hs'.1.1, ↓rrf_of hs'.1.2.2.2.2.2.2, ↓shA_of hs'.2.2.2.1.2.2.2.2.2.1, nC (show 64 < 2147483648 by omega), n65, nC (show 65 < 2147483648 by omega), n66, nC (show 66 < 2147483648 by omega), n67, nC (show 67 < 2147483648 by omega), hM1, hM2, hM3]
      refine ⟨fun _ => ⟨inB_n (by omega) (by omega), inB_n (by omega) (by omega), inB_n (by omega) (by omega), inB_n (by omega) (by omega), ?_⟩, fun c => absurd (by decide) c⟩
      have o1 : Rf r (· = r + 6) [] M M1 := by rw [← hM1]; exact o.row rfl (by omega)
      have o2 : Rf r (· = r + 6) [] M M2 := by rw [← hM2]; exact o1.row rfl (by omega)
      have o3 : Rf r (· = r + 6) [] M M3 := by rw [← hM3]; exact o2.row rfl (by omega)
      have z : ∀ j, j < 64 → (M3.si (r + 6) 67 (M3.it r 15)).it (r + 6) j = M'.it (r + 6) j := fun j hj => by rw [si_it, if_neg (fun z => by omega), ← hM3, si_it, if_neg (fun z => by omega), ← hM2, si_it, if_neg (fun z => by omega), ← hM1, si_it, if_neg (fun z => by omega)]
      refine hk _ ⟨fun e he => ?_, fun q hq => ?_, ?_, ?_, ?_, ?_⟩ (o3.row rfl (by omega))
      · rw [z _ (by omega), z _ (by omega)]; exact h1 e he
      · rw [z _ (by omega)]; exact h2 q hq
      · rw [si_it, if_neg (fun z => by omega), ← hM3, si_it, if_neg (fun z => by omega), ← hM2, si_it, if_neg (fun z => by omega), ← hM1, si_it, if_pos ⟨rfl, rfl⟩]
        exact o.2 9 (by simp)
      · rw [si_it, if_neg (fun z => by omega), ← hM3, si_it, if_neg (fun z => by omega), ← hM2, si_it, if_pos ⟨rfl, rfl⟩]
        exact o1.2 12 (by simp)
      · rw [si_it, if_neg (fun z => by omega), ← hM3, si_it, if_pos ⟨rfl, rfl⟩]
        exact o2.2 14 (by simp)
      · rw [si_it, if_pos ⟨rfl, rfl⟩]
        exact o3.2 15 (by simp)
    | succ m ih =>
      intro i M' hi o h1 h2
      have hs' := hs.oi o.1
      refine vc_X 40 _ _ _ _ _ _ _ ?_
      simp only [↓v120_0, ↓v120_1, ↓v120_2, ↓v120_3, ↓v120_4, ↓v120_5, ↓v120_7, ↓v120_10, ↓v120_11, ↓v120_14, ↓v120_15, ↓v120_18, ↓v120_19, ↓v120_22, ↓v120_23, ↓v120_24, ↓v120_25, ↓v120_26, ↓v120_29, ↓v120_30, ↓v120_33, ↓v120_34, ↓v120_37, ↓v120_38, ↓v120_39, ↓v120_40, ↓v120_43, ↓v120_46, ↓v120_47, ↓v120_48, ↓v120_49, ↓v120_51, ↓v120_54, ↓v120_55, ↓v120_58, ↓v120_59, ↓v120_62, ↓v120_63, ↓v120_66, ↓v120_67, ↓v120_68, ↓v120_69, ↓v120_72, ↓v120_75, ↓v120_76, ↓v120_79, ↓v120_80, ↓v120_83, ↓v120_84, ↓v120_87, ↓v120_88, ↓v120_89, ↓v120_92, ↓v120_93, ↓v120_96, ↓v120_97, ↓v120_100, ↓v120_101, ↓v120_102, ↓v120_105, ↓v120_106, ↓v120_109, ↓v120_110, ↓v120_113, ↓v120_114, ↓v120_115, ↓v120_118, ↓v120_119, ↓v120_120, ↓v120_123, ↓v120_124, ↓qI_c, ↓qL_c, ↓qR_c, ↓pA_o, ↓qC_i, ↓qC_r, ↓oA_s, ↓gI_0, ↓gI_1, ↓gI_2, ↓gI_3, ↓gI_4, ↓gI_5, ↓gI_6, ↓gI_7, ↓gI_8, ↓gI_9, ↓gI_10, ↓gR_0, ↓gR_1, ↓gR_2, ↓gR_3, ↓gR_4, ↓gR_5, ↓gR_6, ↓gR_7, ↓gR_8, ↓gR_9, ↓gR_10, ↓sL_0, ↓sL_1, ↓sL_2, ↓sL_3, ↓sL_4, ↓sL_5, ↓sL_6, ↓sL_7, ↓sL_8, ↓sL_9, ↓sL_10, ↓rrf_si, ↓rrf_sg, ↓shO_si, ↓shO_sg, ↓shO_sr, ↓shA_si, ↓shA_sg, ↓shA_sr, ↓pAs_0, ↓pAs_i, ↓pAs_r, stk_n, stk_i, stk_l, stk_r, List.nil_append, List.cons_append, true_and, and_true, true_or, or_true, Nat.zero_add, dp_s, Nat.reduceAdd, le8_0, le8_1, le8_2, le8_3, le8_4, le8_5, le8_6, le8_7, le8_8, Classical.not_not, aT40, aT41, aT42, aT44, aT54, aT58, aT59, rT54, rT58, rT59, reduceIte, Nat.reduceEqDiff, qn_42, qn_44, true_implies, not_true_eq_false, not_false_eq_true, false_implies, le_T, T_48, nT (show i < 2147483648 by omega), ↓shO_of hs'.1.1, ↓rrf_of hs'.1.2.2.2.2.2.2, ↓shA_of hs'.2.2.2.1.2.2.2.2.2.1, nC (show i < 2147483648 by omega), nC (show 16 + i < 2147483648 by omega), ↓rrf_of hs'.2.1.2.1, ↓shA_of hs'.2.2.2.1.2.2.2.2.2.2.2, nI_1]
      refine ⟨fun c => by omega, fun _ => ⟨inB_n (by omega) (by omega), inB_n (by omega) (by omega), ?_⟩⟩
      refine ih (i + 1) _ (by omega) (o.row rfl (by omega)) (fun e he => ?_) (fun q hq => ?_)
      · rw [si_it, if_neg (fun z => by omega), si_it, if_neg (fun z => by omega)]
        exact h1 e he
      · by_cases cq : q = i
        · subst cq
          rw [si_it, if_pos ⟨rfl, rfl⟩]
          exact o.at_ (by omega) (by omega) q
        · rw [si_it, if_neg (fun z => by omega)]
          exact h2 q (by omega)
  have lop1 : ∀ m i M', i + m = 8 → Rf r (· = r + 6) [] M M' → (∀ e, e < i → M'.it (r + 6) (2 * e) = M.it (r + 4) e ∧ M'.it (r + 6) (2 * e + 1) = M.it (r + 5) e) → X d 120 4 [some (.inr (some r)), some (.inl (nI (2 * i))), some (.inl (nI i))] [] M' k := by
    intro m
    induction m with
    | zero =>
      intro i M' hi o h1
      have e : i = 8 := by omega
      subst e
      refine vc_X 20 _ _ _ _ _ _ _ ?_
      simp only [↓v120_0, ↓v120_1, ↓v120_2, ↓v120_3, ↓v120_4, ↓v120_5, ↓v120_7, ↓v120_10, ↓v120_11, ↓v120_14, ↓v120_15, ↓v120_18, ↓v120_19, ↓v120_22, ↓v120_23, ↓v120_24, ↓v120_25, ↓v120_26, ↓v120_29, ↓v120_30, ↓v120_33, ↓v120_34, ↓v120_37, ↓v120_38, ↓v120_39, ↓v120_40, ↓v120_43, ↓v120_46, ↓v120_47, ↓v120_48, ↓v120_49, ↓v120_51, ↓v120_54, ↓v120_55, ↓v120_58, ↓v120_59, ↓v120_62, ↓v120_63, ↓v120_66, ↓v120_67, ↓v120_68, ↓v120_69, ↓v120_72, ↓v120_75, ↓v120_76, ↓v120_79, ↓v120_80, ↓v120_83, ↓v120_84, ↓v120_87, ↓v120_88, ↓v120_89, ↓v120_92, ↓v120_93, ↓v120_96, ↓v120_97, ↓v120_100, ↓v120_101, ↓v120_102, ↓v120_105, ↓v120_106, ↓v120_109, ↓v120_110, ↓v120_113, ↓v120_114, ↓v120_115, ↓v120_118, ↓v120_119, ↓v120_120, ↓v120_123, ↓v120_124, ↓qI_c, ↓qL_c, ↓qR_c, ↓pA_o, ↓qC_i, ↓qC_r, ↓oA_s, ↓gI_0, ↓gI_1, ↓gI_2, ↓gI_3, ↓gI_4, ↓gI_5, ↓gI_6, ↓gI_7, ↓gI_8, ↓gI_9, ↓gI_10, ↓gR_0, ↓gR_1, ↓gR_2, ↓gR_3, ↓gR_4, ↓gR_5, ↓gR_6, ↓gR_7, ↓gR_8, ↓gR_9, ↓gR_10, ↓sL_0, ↓sL_1, ↓sL_2, ↓sL_3, ↓sL_4, ↓sL_5, ↓sL_6, ↓sL_7, ↓sL_8, ↓sL_9, ↓sL_10, ↓rrf_si, ↓rrf_sg, ↓shO_si, ↓shO_sg, ↓shO_sr, ↓shA_si, ↓shA_sg, ↓shA_sr, ↓pAs_0, ↓pAs_i, ↓pAs_r, stk_n, stk_i, stk_l, stk_r, List.nil_append, List.cons_append, true_and, and_true, true_or, or_true, Nat.zero_add, dp_s, Nat.reduceAdd, le8_0, le8_1, le8_2, le8_3, le8_4, le8_5, le8_6, le8_7, le8_8, Classical.not_not, aT40, aT41, aT42, aT44, aT54, aT58, aT59, rT54, rT58, rT59, reduceIte, Nat.reduceEqDiff, qn_42, qn_44, true_implies, not_true_eq_false, not_false_eq_true, false_implies, le_T, T_8, nT (show 8 < 2147483648 by omega), Int.le_refl]
      exact ⟨fun _ => lop2 48 0 M' (by omega) o h1 (fun q hq => by omega), fun c => absurd (by decide) c⟩
    | succ m ih =>
      intro i M' hi o h1
      have hs' := hs.oi o.1
      generalize hM1 : M'.si (r + 6) (2 * i) (M'.it (r + 4) i) = M1
      refine vc_X 60 _ _ _ _ _ _ _ ?_
      simp only [↓v120_0, ↓v120_1, ↓v120_2, ↓v120_3, ↓v120_4, ↓v120_5, ↓v120_7, ↓v120_10, ↓v120_11, ↓v120_14, ↓v120_15, ↓v120_18, ↓v120_19, ↓v120_22, ↓v120_23, ↓v120_24, ↓v120_25, ↓v120_26, ↓v120_29, ↓v120_30, ↓v120_33, ↓v120_34, ↓v120_37, ↓v120_38, ↓v120_39, ↓v120_40, ↓v120_43, ↓v120_46, ↓v120_47, ↓v120_48, ↓v120_49, ↓v120_51, ↓v120_54, ↓v120_55, ↓v120_58, ↓v120_59, ↓v120_62, ↓v120_63, ↓v120_66, ↓v120_67, ↓v120_68, ↓v120_69, ↓v120_72, ↓v120_75, ↓v120_76, ↓v120_79, ↓v120_80, ↓v120_83, ↓v120_84, ↓v120_87, ↓v120_88, ↓v120_89, ↓v120_92, ↓v120_93, ↓v120_96, ↓v120_97, ↓v120_100, ↓v120_101, ↓v120_102, ↓v120_105, ↓v120_106, ↓v120_109, ↓v120_110, ↓v120_113, ↓v120_114, ↓v120_115, ↓v120_118, ↓v120_119, ↓v120_120, ↓v120_123, ↓v120_124, ↓qI_c, ↓qL_c, ↓qR_c, ↓pA_o, ↓qC_i, ↓qC_r, ↓oA_s, ↓gI_0, ↓gI_1, ↓gI_2, ↓gI_3, ↓gI_4, ↓gI_5, ↓gI_6, ↓gI_7, ↓gI_8, ↓gI_9, ↓gI_10, ↓gR_0, ↓gR_1, ↓gR_2, ↓gR_3, ↓gR_4, ↓gR_5, ↓gR_6, ↓gR_7, ↓gR_8, ↓gR_9, ↓gR_10, ↓sL_0, ↓sL_1, ↓sL_2, ↓sL_3, ↓sL_4, ↓sL_5, ↓sL_6, ↓sL_7, ↓sL_8, ↓sL_9, ↓sL_10, ↓rrf_si, ↓rrf_sg, ↓shO_si, ↓shO_sg, ↓shO_sr, ↓shA_si, ↓shA_sg, ↓shA_sr, ↓pAs_0, ↓pAs_i, ↓pAs_r, stk_n, stk_i, stk_l, stk_r, List.nil_append, List.cons_append, true_and, and_true, true_or, or_true, Nat.zero_add, dp_s, Nat.reduceAdd, le8_0, le8_1, le8_2, le8_3, le8_4, le8_5, le8_6, le8_7, le8_8, Classical.not_not, aT40, aT41, aT42, aT44, aT54, aT58, aT59, rT54, rT58, rT59, reduceIte, Nat.reduceEqDiff, qn_42, qn_44, true_implies, not_true_eq_false, not_false_eq_true, false_implies, le_T, T_8, nT (show i < 2147483648 by omega), ↓shO_of hs'.1.1, ↓rrf_of hs'.1.2.2.2.2.2.2, ↓shA_of hs'.2.2.2.1.2.2.2.2.2.1, nC (show i < 2147483648 by omega), nC (show 2 * i < 2147483648 by omega), ↓rrf_of hs'.1.2.2.2.2.1, ↓shA_of hs'.2.2.2.1.2.2.2.1, ↓rrf_of hs'.1.2.2.2.2.2.1, ↓shA_of hs'.2.2.2.1.2.2.2.2.1, nI_1, hM1, nC (show 2 * i + 1 < 2147483648 by omega)]
      refine ⟨fun c => by omega, fun _ => ⟨inB_n (by omega) (by omega), inB_n (by omega) (by omega), inB_n (by omega) (by omega), inB_n (by omega) (by omega), ?_⟩⟩
      have o1 : Rf r (· = r + 6) [] M M1 := by rw [← hM1]; exact o.row rfl (by omega)
      refine ih (i + 1) _ (by omega) (o1.row rfl (by omega)) (fun e he => ?_)
      by_cases ce : e = i
      · subst ce
        rw [si_it, if_neg (fun z => by omega), si_it, if_pos ⟨rfl, rfl⟩, ← hM1, si_it, if_pos ⟨rfl, rfl⟩, hM1]
        exact ⟨o.at_ (by omega) (by omega) _, o1.at_ (by omega) (by omega) _⟩
      · rw [si_it, if_neg (fun z => by omega), si_it, if_neg (fun z => by omega), ← hM1, si_it, if_neg (fun z => by omega), si_it, if_neg (fun z => by omega)]
        exact h1 e (by omega)
  refine xc ?_
  show X d 120 0 [some (.inr (some r)), none, none] [] M k
  refine vc_X 20 _ _ _ _ _ _ _ ?_
  simp only [↓v120_0, ↓v120_1, ↓v120_2, ↓v120_3, ↓v120_4, ↓v120_5, ↓v120_7, ↓v120_10, ↓v120_11, ↓v120_14, ↓v120_15, ↓v120_18, ↓v120_19, ↓v120_22, ↓v120_23, ↓v120_24, ↓v120_25, ↓v120_26, ↓v120_29, ↓v120_30, ↓v120_33, ↓v120_34, ↓v120_37, ↓v120_38, ↓v120_39, ↓v120_40, ↓v120_43, ↓v120_46, ↓v120_47, ↓v120_48, ↓v120_49, ↓v120_51, ↓v120_54, ↓v120_55, ↓v120_58, ↓v120_59, ↓v120_62, ↓v120_63, ↓v120_66, ↓v120_67, ↓v120_68, ↓v120_69, ↓v120_72, ↓v120_75, ↓v120_76, ↓v120_79, ↓v120_80, ↓v120_83, ↓v120_84, ↓v120_87, ↓v120_88, ↓v120_89, ↓v120_92, ↓v120_93, ↓v120_96, ↓v120_97, ↓v120_100, ↓v120_101, ↓v120_102, ↓v120_105, ↓v120_106, ↓v120_109, ↓v120_110, ↓v120_113, ↓v120_114, ↓v120_115, ↓v120_118, ↓v120_119, ↓v120_120, ↓v120_123, ↓v120_124, ↓qI_c, ↓qL_c, ↓qR_c, ↓pA_o, ↓qC_i, ↓qC_r, ↓oA_s, ↓gI_0, ↓gI_1, ↓gI_2, ↓gI_3, ↓gI_4, ↓gI_5, ↓gI_6, ↓gI_7, ↓gI_8, ↓gI_9, ↓gI_10, ↓gR_0, ↓gR_1, ↓gR_2, ↓gR_3, ↓gR_4, ↓gR_5, ↓gR_6, ↓gR_7, ↓gR_8, ↓gR_9, ↓gR_10, ↓sL_0, ↓sL_1, ↓sL_2, ↓sL_3, ↓sL_4, ↓sL_5, ↓sL_6, ↓sL_7, ↓sL_8, ↓sL_9, ↓sL_10, ↓rrf_si, ↓rrf_sg, ↓shO_si, ↓shO_sg, ↓shO_sr, ↓shA_si, ↓shA_sg, ↓shA_sr, ↓pAs_0, ↓pAs_i, ↓pAs_r, stk_n, stk_i, stk_l, stk_r, List.nil_append, List.cons_append, true_and, and_true, true_or, or_true, Nat.zero_add, dp_s, Nat.reduceAdd, le8_0, le8_1, le8_2, le8_3, le8_4, le8_5, le8_6, le8_7, le8_8, Classical.not_not, aT40, aT41, aT42, aT44, aT54, aT58, aT59, rT54, rT58, rT59, reduceIte, Nat.reduceEqDiff, qn_42, qn_44, true_implies, not_true_eq_false, not_false_eq_true, false_implies]
  exact lop1 8 0 M (by omega) Rf.rf_ (fun e he => by omega)
def PU (r : Nat) : Nat → Prop := fun y => y = r + 4 ∨ y = r + 5 ∨ y = r + 8
theorem e127 {d : Nat} {M M0 : Mm} {k : mQ} {r : Nat} {x : Int32} (hs : RS M r) (hK : Kp r M0 M) (hk : ∀ M', (∀ e, e < 8 → M'.it (r + 4) e = M0.it (r + 4) e ∧ M'.it (r + 5) e = M0.it (r + 5) e) → (∀ q, q < 48 → M'.it (r + 8) q = M0.it (r + 8) q) → (M'.it r 9 = M0.it r 9 ∧ M'.it r 12 = M0.it r 12 ∧ M'.it r 14 = M0.it r 14 ∧ M'.it r 15 = M0.it r 15) → Rf r (PU r) [9, 12, 14, 15] M M' → k (some (.inl x)) M') : XC (d + 1) 127 [.inr (some r), .inl x] M k := by
  obtain ⟨K1, K2, K3, K4, K5, K6⟩ := hK
  have lop2 : ∀ m i M', i + m = 48 → Rf r (PU r) [] M M' → (∀ e, e < 8 → M'.it (r + 4) e = M0.it (r + 4) e ∧ M'.it (r + 5) e = M0.it (r + 5) e) → (∀ q, q < i → M'.it (r + 8) q = M0.it (r + 8) q) → X d 127 48 [some (.inr (some r)), some (.inl x), some (.inl (nI (16 + i))), some (.inl (nI i))] [] M' k := by
    intro m
    induction m with
    | zero =>
      intro i M' hi o h1 h2
      have e : i = 48 := by omega
      subst e
      have hs' := hs.oi o.1
      have a6 : ∀ j, M'.it (r + 6) j = M.it (r + 6) j := fun j => o.at_ (by omega) (by unfold PU; omega) j
      generalize hM1 : M'.si r 9 (M0.it r 9) = M1
      have b1 : M1.it (r + 6) 65 = M0.it r 12 := by rw [← hM1, si_it, if_neg (by omega), a6]; exact K4
      generalize hM2 : M1.si r 12 (M0.it r 12) = M2
      have b2 : M2.it (r + 6) 66 = M0.it r 14 := by rw [← hM2, si_it, if_neg (by omega), ← hM1, si_it, if_neg (by omega), a6]; exact K5
      generalize hM3 : M2.si r 14 (M0.it r 14) = M3
      have b3 : M3.it (r + 6) 67 = M0.it r 15 := by rw [← hM3, si_it, if_neg (by omega), ← hM2, si_it, if_neg (by omega), ← hM1, si_it, if_neg (by omega), a6]; exact K6
      have b0 : M'.it (r + 6) 64 = M0.it r 9 := by rw [a6]; exact K3
      have n65 : nI 64 + 1 = nI 65 := rfl
      have n66 : nI 65 + 1 = nI 66 := rfl
      have n67 : nI 66 + 1 = nI 67 := rfl
      have n64 : nI (16 + 48) = nI 64 := rfl
      refine vc_X 60 _ _ _ _ _ _ _ ?_
      simp only [↓v127_0, ↓v127_1, ↓v127_2, ↓v127_3, ↓v127_4, ↓v127_5, ↓v127_7, ↓v127_10, ↓v127_11, ↓v127_14, ↓v127_15, ↓v127_16, ↓v127_19, ↓v127_20, ↓v127_23, ↓v127_24, ↓v127_25, ↓v127_26, ↓v127_29, ↓v127_30, ↓v127_31, ↓v127_34, ↓v127_35, ↓v127_38, ↓v127_39, ↓v127_40, ↓v127_43, ↓v127_46, ↓v127_47, ↓v127_48, ↓v127_49, ↓v127_51, ↓v127_54, ↓v127_55, ↓v127_58, ↓v127_59, ↓v127_60, ↓v127_63, ↓v127_64, ↓v127_67, ↓v127_68, ↓v127_69, ↓v127_72, ↓v127_75, ↓v127_76, ↓v127_77, ↓v127_80, ↓v127_81, ↓v127_84, ↓v127_85, ↓v127_88, ↓v127_89, ↓v127_90, ↓v127_93, ↓v127_94, ↓v127_97, ↓v127_98, ↓v127_101, ↓v127_102, ↓v127_103, ↓v127_106, ↓v127_107, ↓v127_110, ↓v127_111, ↓v127_114, ↓v127_115, ↓v127_116, ↓v127_119, ↓v127_120, ↓v127_121, ↓v127_124, ↓v127_125, ↓qI_c, ↓qL_c, ↓qR_c, ↓pA_o, ↓qC_i, ↓qC_r, ↓oA_s, ↓gI_0, ↓gI_1, ↓gI_2, ↓gI_3, ↓gI_4, ↓gI_5, ↓gI_6, ↓gI_7, ↓gI_8, ↓gI_9, ↓gI_10, ↓gR_0, ↓gR_1, ↓gR_2, ↓gR_3, ↓gR_4, ↓gR_5, ↓gR_6, ↓gR_7, ↓gR_8, ↓gR_9, ↓gR_10, ↓sL_0, ↓sL_1, ↓sL_2, ↓sL_3, ↓sL_4, ↓sL_5, ↓sL_6, ↓sL_7, ↓sL_8, ↓sL_9, ↓sL_10, ↓rrf_si, ↓rrf_sg, ↓shO_si, ↓shO_sg, ↓shO_sr, ↓shA_si, ↓shA_sg, ↓shA_sr, ↓pAs_0, ↓pAs_i, ↓pAs_r, stk_n, stk_i, stk_l, stk_r, List.nil_append, List.cons_append, true_and, and_true, true_or, or_true, Nat.zero_add, dp_s, Nat.reduceAdd, le8_0, le8_1, le8_2, le8_3, le8_4, le8_5, le8_6, le8_7, le8_8, Classical.not_not, aT40, aT41, aT42, aT44, aT54, aT58, aT59, rT54, rT58, rT59, reduceIte, Nat.reduceEqDiff, qn_42, qn_44, true_implies, not_true_eq_false, not_false_eq_true, false_implies, n64, le_T, T_48, nT (show 48 < 2147483648 by omega), Int.le_refl, ↓shO_of hs'.1.1, ↓rrf_of hs'.1.2.2.2.2.2.2, ↓shA_of hs'.2.2.2.1.2.2.2.2.2.1, nC (show 64 < 2147483648 by omega), n65, nC (show 65 < 2147483648 by omega), n66, nC (show 66 < 2147483648 by omega), n67, nC (show 67 < 2147483648 by omega), b0, hM1, b1, hM2, b2, hM3, b3]
      refine ⟨fun _ => ⟨inB_n (by omega) (by omega), inB_n (by omega) (by omega), inB_n (by omega) (by omega), inB_n (by omega) (by omega), ?_⟩, fun c => absurd (by decide) c⟩
      have o1 : Rf r (PU r) [9, 12, 14, 15] M M1 := by rw [← hM1]; exact (o.mono (Fs := [9, 12, 14, 15]) (fun _ q => q) (fun _ q => by cases q)).fld (by simp)
      have o2 : Rf r (PU r) [9, 12, 14, 15] M M2 := by rw [← hM2]; exact o1.fld (by simp)
      have o3 : Rf r (PU r) [9, 12, 14, 15] M M3 := by rw [← hM3]; exact o2.fld (by simp)
      have z : ∀ y j, y ≠ r → (M3.si r 15 (M0.it r 15)).it y j = M'.it y j := fun y j hj => by rw [si_it, if_neg (fun z => hj z.1), ← hM3, si_it, if_neg (fun z => hj z.1), ← hM2, si_it, if_neg (fun z => hj z.1), ← hM1, si_it, if_neg (fun z => hj z.1)]
      refine hk _ (fun e he => ?_) (fun q hq => ?_) ⟨?_, ?_, ?_, ?_⟩ (o3.fld (by simp))
      · rw [z _ _ (by omega), z _ _ (by omega)]; exact h1 e he
      · rw [z _ _ (by omega)]; exact h2 q hq
      · rw [si_it, if_neg (fun z => by omega), ← hM3, si_it, if_neg (fun z => by omega), ← hM2, si_it, if_neg (fun z => by omega), ← hM1, si_it, if_pos ⟨rfl, rfl⟩]
      · rw [si_it, if_neg (fun z => by omega), ← hM3, si_it, if_neg (fun z => by omega), ← hM2, si_it, if_pos ⟨rfl, rfl⟩]
      · rw [si_it, if_neg (fun z => by omega), ← hM3, si_it, if_pos ⟨rfl, rfl⟩]
      · rw [si_it, if_pos ⟨rfl, rfl⟩]
    | succ m ih =>
      intro i M' hi o h1 h2
      have hs' := hs.oi o.1
      have a6 : M'.it (r + 6) (16 + i) = M0.it (r + 8) i := by rw [o.at_ (by omega) (by unfold PU; omega)]; exact K2 i (by omega)
      refine vc_X 40 _ _ _ _ _ _ _ ?_
      simp only [↓v127_0, ↓v127_1, ↓v127_2, ↓v127_3, ↓v127_4, ↓v127_5, ↓v127_7, ↓v127_10, ↓v127_11, ↓v127_14, ↓v127_15, ↓v127_16, ↓v127_19, ↓v127_20, ↓v127_23, ↓v127_24, ↓v127_25, ↓v127_26, ↓v127_29, ↓v127_30, ↓v127_31, ↓v127_34, ↓v127_35, ↓v127_38, ↓v127_39, ↓v127_40, ↓v127_43, ↓v127_46, ↓v127_47, ↓v127_48, ↓v127_49, ↓v127_51, ↓v127_54, ↓v127_55, ↓v127_58, ↓v127_59, ↓v127_60, ↓v127_63, ↓v127_64, ↓v127_67, ↓v127_68, ↓v127_69, ↓v127_72, ↓v127_75, ↓v127_76, ↓v127_77, ↓v127_80, ↓v127_81, ↓v127_84, ↓v127_85, ↓v127_88, ↓v127_89, ↓v127_90, ↓v127_93, ↓v127_94, ↓v127_97, ↓v127_98, ↓v127_101, ↓v127_102, ↓v127_103, ↓v127_106, ↓v127_107, ↓v127_110, ↓v127_111, ↓v127_114, ↓v127_115, ↓v127_116, ↓v127_119, ↓v127_120, ↓v127_121, ↓v127_124, ↓v127_125, ↓qI_c, ↓qL_c, ↓qR_c, ↓pA_o, ↓qC_i, ↓qC_r, ↓oA_s, ↓gI_0, ↓gI_1, ↓gI_2, ↓gI_3, ↓gI_4, ↓gI_5, ↓gI_6, ↓gI_7, ↓gI_8, ↓gI_9, ↓gI_10, ↓gR_0, ↓gR_1, ↓gR_2, ↓gR_3, ↓gR_4, ↓gR_5, ↓gR_6, ↓gR_7, ↓gR_8, ↓gR_9, ↓gR_10, ↓sL_0, ↓sL_1, ↓sL_2, ↓sL_3, ↓sL_4, ↓sL_5, ↓sL_6, ↓sL_7, ↓sL_8, ↓sL_9, ↓sL_10, ↓rrf_si, ↓rrf_sg, ↓shO_si, ↓shO_sg, ↓shO_sr, ↓shA_si, ↓shA_sg, ↓shA_sr, ↓pAs_0, ↓pAs_i, ↓pAs_r, stk_n, stk_i, stk_l, stk_r, List.nil_append, List.cons_append, true_and, and_true, true_or, or_true, Nat.zero_add, dp_s, Nat.reduceAdd, le8_0, le8_1, le8_2, le8_3, le8_4, le8_5, le8_6, le8_7, le8_8, Classical.not_not, aT40, aT41, aT42, aT44, aT54, aT58, aT59, rT54, rT58, rT59, reduceIte, Nat.reduceEqDiff, qn_42, qn_44, true_implies, not_true_eq_false, not_false_eq_true, false_implies, le_T, T_48, nT (show i < 2147483648 by omega), ↓shO_of hs'.1.1, ↓rrf_of hs'.1.2.2.2.2.2.2, ↓shA_of hs'.2.2.2.1.2.2.2.2.2.1, nC (show i < 2147483648 by omega), nC (show 16 + i < 2147483648 by omega), ↓rrf_of hs'.2.1.2.1, ↓shA_of hs'.2.2.2.1.2.2.2.2.2.2.2, a6, nI_1]
      refine ⟨fun c => by omega, fun _ => ⟨inB_n (by omega) (by omega), inB_n (by omega) (by omega), ?_⟩⟩
      refine ih (i + 1) _ (by omega) (o.row (Or.inr (Or.inr rfl)) (by omega)) (fun e he => ?_) (fun q hq => ?_)
      · rw [si_it, if_neg (fun z => by omega), si_it, if_neg (fun z => by omega)]
        exact h1 e he
      · by_cases cq : q = i
        · subst cq
          rw [si_it, if_pos ⟨rfl, rfl⟩]
        · rw [si_it, if_neg (fun z => by omega)]
          exact h2 q (by omega)
  have lop1 : ∀ m i M', i + m = 8 → Rf r (PU r) [] M M' → (∀ e, e < i → M'.it (r + 4) e = M0.it (r + 4) e ∧ M'.it (r + 5) e = M0.it (r + 5) e) → X d 127 4 [some (.inr (some r)), some (.inl x), some (.inl (nI (2 * i))), some (.inl (nI i))] [] M' k := by
    intro m
    induction m with
    | zero =>
      intro i M' hi o h1
      have e : i = 8 := by omega
      subst e
      refine vc_X 20 _ _ _ _ _ _ _ ?_
      simp only [↓v127_0, ↓v127_1, ↓v127_2, ↓v127_3, ↓v127_4, ↓v127_5, ↓v127_7, ↓v127_10, ↓v127_11, ↓v127_14, ↓v127_15, ↓v127_16, ↓v127_19, ↓v127_20, ↓v127_23, ↓v127_24, ↓v127_25, ↓v127_26, ↓v127_29, ↓v127_30, ↓v127_31, ↓v127_34, ↓v127_35, ↓v127_38, ↓v127_39, ↓v127_40, ↓v127_43, ↓v127_46, ↓v127_47, ↓v127_48, ↓v127_49, ↓v127_51, ↓v127_54, ↓v127_55, ↓v127_58, ↓v127_59, ↓v127_60, ↓v127_63, ↓v127_64, ↓v127_67, ↓v127_68, ↓v127_69, ↓v127_72, ↓v127_75, ↓v127_76, ↓v127_77, ↓v127_80, ↓v127_81, ↓v127_84, ↓v127_85, ↓v127_88, ↓v127_89, ↓v127_90, ↓v127_93, ↓v127_94, ↓v127_97, ↓v127_98, ↓v127_101, ↓v127_102, ↓v127_103, ↓v127_106, ↓v127_107, ↓v127_110, ↓v127_111, ↓v127_114, ↓v127_115, ↓v127_116, ↓v127_119, ↓v127_120, ↓v127_121, ↓v127_124, ↓v127_125, ↓qI_c, ↓qL_c, ↓qR_c, ↓pA_o, ↓qC_i, ↓qC_r, ↓oA_s, ↓gI_0, ↓gI_1, ↓gI_2, ↓gI_3, ↓gI_4, ↓gI_5, ↓gI_6, ↓gI_7, ↓gI_8, ↓gI_9, ↓gI_10, ↓gR_0, ↓gR_1, ↓gR_2, ↓gR_3, ↓gR_4, ↓gR_5, ↓gR_6, ↓gR_7, ↓gR_8, ↓gR_9, ↓gR_10, ↓sL_0, ↓sL_1, ↓sL_2, ↓sL_3, ↓sL_4, ↓sL_5, ↓sL_6, ↓sL_7, ↓sL_8, ↓sL_9, ↓sL_10, ↓rrf_si, ↓rrf_sg, ↓shO_si, ↓shO_sg, ↓shO_sr, ↓shA_si, ↓shA_sg, ↓shA_sr, ↓pAs_0, ↓pAs_i, ↓pAs_r, stk_n, stk_i, stk_l, stk_r, List.nil_append, List.cons_append, true_and, and_true, true_or, or_true, Nat.zero_add, dp_s, Nat.reduceAdd, le8_0, le8_1, le8_2, le8_3, le8_4, le8_5, le8_6, le8_7, le8_8, Classical.not_not, aT40, aT41, aT42, aT44, aT54, aT58, aT59, rT54, rT58, rT59, reduceIte, Nat.reduceEqDiff, qn_42, qn_44, true_implies, not_true_eq_false, not_false_eq_true, false_implies, le_T, T_8, nT (show 8 < 2147483648 by omega), Int.le_refl]
      exact ⟨fun _ => lop2 48 0 M' (by omega) o h1 (fun q hq => by omega), fun c => absurd (by decide) c⟩
    | succ m ih =>
      intro i M' hi o h1
      have hs' := hs.oi o.1
      have a6 : M'.it (r + 6) (2 * i) = M0.it (r + 4) i := by rw [o.at_ (by omega) (by unfold PU; omega)]; exact (K1 i (by omega)).1
      generalize hM1 : M'.si (r + 4) i (M0.it (r + 4) i) = M1
      have a7 : M1.it (r + 6) (2 * i + 1) = M0.it (r + 5) i := by rw [← hM1, si_it, if_neg (by omega), o.at_ (by omega) (by unfold PU; omega)]; exact (K1 i (by omega)).2
      refine vc_X 60 _ _ _ _ _ _ _ ?_
      simp only [↓v127_0, ↓v127_1, ↓v127_2, ↓v127_3, ↓v127_4, ↓v127_5, ↓v127_7, ↓v127_10, ↓v127_11, ↓v127_14, ↓v127_15, ↓v127_16, ↓v127_19, ↓v127_20, ↓v127_23, ↓v127_24, ↓v127_25, ↓v127_26, ↓v127_29, ↓v127_30, ↓v127_31, ↓v127_34, ↓v127_35, ↓v127_38, ↓v127_39, ↓v127_40, ↓v127_43, ↓v127_46, ↓v127_47, ↓v127_48, ↓v127_49, ↓v127_51, ↓v127_54, ↓v127_55, ↓v127_58, ↓v127_59, ↓v127_60, ↓v127_63, ↓v127_64, ↓v127_67, ↓v127_68, ↓v127_69, ↓v127_72, ↓v127_75, ↓v127_76, ↓v127_77, ↓v127_80, ↓v127_81, ↓v127_84, ↓v127_85, ↓v127_88, ↓v127_89, ↓v127_90, ↓v127_93, ↓v127_94, ↓v127_97, ↓v127_98, ↓v127_101, ↓v127_102, ↓v127_103, ↓v127_106, ↓v127_107, ↓v127_110, ↓v127_111, ↓v127_114, ↓v127_115, ↓v127_116, ↓v127_119, ↓v127_120, ↓v127_121, ↓v127_124, ↓v127_125, ↓qI_c, ↓qL_c, ↓qR_c, ↓pA_o, ↓qC_i, ↓qC_r, ↓oA_s, ↓gI_0, ↓gI_1, ↓gI_2, ↓gI_3, ↓gI_4, ↓gI_5, ↓gI_6, ↓gI_7, ↓gI_8, ↓gI_9, ↓gI_10, ↓gR_0, ↓gR_1, ↓gR_2, ↓gR_3, ↓gR_4, ↓gR_5, ↓gR_6, ↓gR_7, ↓gR_8, ↓gR_9, ↓gR_10, ↓sL_0, ↓sL_1, ↓sL_2, ↓sL_3, ↓sL_4, ↓sL_5, ↓sL_6, ↓sL_7, ↓sL_8, ↓sL_9, ↓sL_10, ↓rrf_si, ↓rrf_sg, ↓shO_si, ↓shO_sg, ↓shO_sr, ↓shA_si, ↓shA_sg, ↓shA_sr, ↓pAs_0, ↓pAs_i, ↓pAs_r, stk_n, stk_i, stk_l, stk_r, List.nil_append, List.cons_append, true_and, and_true, true_or, or_true, Nat.zero_add, dp_s, Nat.reduceAdd, le8_0, le8_1, le8_2, le8_3, le8_4, le8_5, le8_6, le8_7, le8_8, Classical.not_not, aT40, aT41, aT42, aT44, aT54, aT58, aT59, rT54, rT58, rT59, reduceIte, Nat.reduceEqDiff, qn_42, qn_44, true_implies, not_true_eq_false, not_false_eq_true, false_implies, le_T, T_8, nT (show i < 2147483648 by omega), ↓shO_of hs'.1.1, ↓rrf_of hs'.1.2.2.2.2.2.2, ↓shA_of hs'.2.2.2.1.2.2.2.2.2.1, nC (show i < 2147483648 by omega), nC (show 2 * i < 2147483648 by omega), ↓rrf_of hs'.1.2.2.2.2.1, ↓shA_of hs'.2.2.2.1.2.2.2.1, ↓rrf_of hs'.1.2.2.2.2.2.1, ↓shA_of hs'.2.2.2.1.2.2.2.2.1, nI_1, a6, hM1, nC (show 2 * i + 1 < 2147483648 by omega), a7]
      refine ⟨fun c => by omega, fun _ => ⟨inB_n (by omega) (by omega), inB_n (by omega) (by omega), inB_n (by omega) (by omega), inB_n (by omega) (by omega), ?_⟩⟩
      have o1 : Rf r (PU r) [] M M1 := by rw [← hM1]; exact o.row (Or.inl rfl) (by omega)
      refine ih (i + 1) _ (by omega) (o1.row (Or.inr (Or.inl rfl)) (by omega)) (fun e he => ?_)
      by_cases ce : e = i
      · subst ce
        rw [si_it, if_neg (fun z => by omega), si_it, if_pos ⟨rfl, rfl⟩, ← hM1, si_it, if_pos ⟨rfl, rfl⟩]
        exact ⟨rfl, rfl⟩
      · rw [si_it, if_neg (fun z => by omega), si_it, if_neg (fun z => by omega), ← hM1, si_it, if_neg (fun z => by omega), si_it, if_neg (fun z => by omega)]
        exact h1 e (by omega)
  refine xc ?_
  show X d 127 0 [some (.inr (some r)), some (.inl x), none, none] [] M k
  refine vc_X 20 _ _ _ _ _ _ _ ?_
  simp only [↓v127_0, ↓v127_1, ↓v127_2, ↓v127_3, ↓v127_4, ↓v127_5, ↓v127_7, ↓v127_10, ↓v127_11, ↓v127_14, ↓v127_15, ↓v127_16, ↓v127_19, ↓v127_20, ↓v127_23, ↓v127_24, ↓v127_25, ↓v127_26, ↓v127_29, ↓v127_30, ↓v127_31, ↓v127_34, ↓v127_35, ↓v127_38, ↓v127_39, ↓v127_40, ↓v127_43, ↓v127_46, ↓v127_47, ↓v127_48, ↓v127_49, ↓v127_51, ↓v127_54, ↓v127_55, ↓v127_58, ↓v127_59, ↓v127_60, ↓v127_63, ↓v127_64, ↓v127_67, ↓v127_68, ↓v127_69, ↓v127_72, ↓v127_75, ↓v127_76, ↓v127_77, ↓v127_80, ↓v127_81, ↓v127_84, ↓v127_85, ↓v127_88, ↓v127_89, ↓v127_90, ↓v127_93, ↓v127_94, ↓v127_97, ↓v127_98, ↓v127_101, ↓v127_102, ↓v127_103, ↓v127_106, ↓v127_107, ↓v127_110, ↓v127_111, ↓v127_114, ↓v127_115, ↓v127_116, ↓v127_119, ↓v127_120, ↓v127_121, ↓v127_124, ↓v127_125, ↓qI_c, ↓qL_c, ↓qR_c, ↓pA_o, ↓qC_i, ↓qC_r, ↓oA_s, ↓gI_0, ↓gI_1, ↓gI_2, ↓gI_3, ↓gI_4, ↓gI_5, ↓gI_6, ↓gI_7, ↓gI_8, ↓gI_9, ↓gI_10, ↓gR_0, ↓gR_1, ↓gR_2, ↓gR_3, ↓gR_4, ↓gR_5, ↓gR_6, ↓gR_7, ↓gR_8, ↓gR_9, ↓gR_10, ↓sL_0, ↓sL_1, ↓sL_2, ↓sL_3, ↓sL_4, ↓sL_5, ↓sL_6, ↓sL_7, ↓sL_8, ↓sL_9, ↓sL_10, ↓rrf_si, ↓rrf_sg, ↓shO_si, ↓shO_sg, ↓shO_sr, ↓shA_si, ↓shA_sg, ↓shA_sr, ↓pAs_0, ↓pAs_i, ↓pAs_r, stk_n, stk_i, stk_l, stk_r, List.nil_append, List.cons_append, true_and, and_true, true_or, or_true, Nat.zero_add, dp_s, Nat.reduceAdd, le8_0, le8_1, le8_2, le8_3, le8_4, le8_5, le8_6, le8_7, le8_8, Classical.not_not, aT40, aT41, aT42, aT44, aT54, aT58, aT59, rT54, rT58, rT59, reduceIte, Nat.reduceEqDiff, qn_42, qn_44, true_implies, not_true_eq_false, not_false_eq_true, false_implies]
  exact lop1 8 0 M (by omega) Rf.rf_ (fun e he => by omega)
