/-! list -/
theorem mList_s (x : Int32) (s : Ms) : (mList x s).2 = s := by
  unfold mList
  split <;> rfl
theorem lop64 {d : Nat} {M : Mm} {k : mQ} {b : Nat} {x : Int32} {im : Nat → Nat} {ch : Nat → Option Nat} {tb : TbT} (hB : CpB M b) (hI : IxC M (b + 255) im ch tb) : ∀ m i, i + m = 48 → k (some (.inl (oI (rpF (hasK ch tb) x i m)))) M → X (d + 3) 64 17 [some (.inr (some b)), some (.inl x), some (.inl (nI (cnt (hasK ch tb) i))), some (.inl (nI i))] [] M k := by
  intro m
  induction m with
  | zero =>
    intro i hi hk
    have e : i = 48 := by omega
    subst e
    refine vc_X 30 _ _ _ _ _ _ _ ?_
    simp only [↓v64_0, ↓v64_1, ↓v64_4, ↓v64_7, ↓v64_8, ↓v64_11, ↓v64_12, ↓v64_13, ↓v64_14, ↓v64_15, ↓v64_16, ↓v64_17, ↓v64_18, ↓v64_20, ↓v64_23, ↓v64_24, ↓v64_27, ↓v64_28, ↓v64_31, ↓v64_32, ↓v64_35, ↓v64_36, ↓v64_37, ↓v64_40, ↓v64_41, ↓v64_42, ↓v64_45, ↓v64_48, ↓v64_51, ↓v64_52, ↓qI_c, ↓qL_c, ↓qR_c, ↓pA_o, ↓qC_i, ↓qC_r, ↓oA_s, ↓gI_0, ↓gI_1, ↓gI_2, ↓gI_3, ↓gI_4, ↓gI_5, ↓gI_6, ↓gI_7, ↓gI_8, ↓gI_9, ↓gI_10, ↓gR_0, ↓gR_1, ↓gR_2, ↓gR_3, ↓gR_4, ↓gR_5, ↓gR_6, ↓gR_7, ↓gR_8, ↓gR_9, ↓gR_10, ↓sL_0, ↓sL_1, ↓sL_2, ↓sL_3, ↓sL_4, ↓sL_5, ↓sL_6, ↓sL_7, ↓sL_8, ↓sL_9, ↓sL_10, ↓rrf_si, ↓rrf_sg, ↓shO_si, ↓shO_sg, ↓shO_sr, ↓shA_si, ↓shA_sg, ↓shA_sr, ↓pAs_0, ↓pAs_i, ↓pAs_r, stk_n, stk_i, stk_l, stk_r, List.nil_append, List.cons_append, true_and, and_true, true_or, or_true, Nat.zero_add, dp_s, Nat.reduceAdd, le8_0, le8_1, le8_2, le8_3, le8_4, le8_5, le8_6, le8_7, le8_8, Classical.not_not, aT40, aT41, aT42, aT44, aT54, aT58, aT59, rT54, rT58, rT59, reduceIte, Nat.reduceEqDiff, qn_42, qn_44, true_implies, not_true_eq_false, not_false_eq_true, false_implies, le_T, T_48, nT (show 48 < 2147483648 by omega)]
    refine ⟨fun _ => hk, fun c => absurd (by decide) c⟩
  | succ m ih =>
    intro i hi hk
    refine vc_X 30 _ _ _ _ _ _ _ ?_
    simp only [↓v64_0, ↓v64_1, ↓v64_4, ↓v64_7, ↓v64_8, ↓v64_11, ↓v64_12, ↓v64_13, ↓v64_14, ↓v64_15, ↓v64_16, ↓v64_17, ↓v64_18, ↓v64_20, ↓v64_23, ↓v64_24, ↓v64_27, ↓v64_28, ↓v64_31, ↓v64_32, ↓v64_35, ↓v64_36, ↓v64_37, ↓v64_40, ↓v64_41, ↓v64_42, ↓v64_45, ↓v64_48, ↓v64_51, ↓v64_52, ↓qI_c, ↓qL_c, ↓qR_c, ↓pA_o, ↓qC_i, ↓qC_r, ↓oA_s, ↓gI_0, ↓gI_1, ↓gI_2, ↓gI_3, ↓gI_4, ↓gI_5, ↓gI_6, ↓gI_7, ↓gI_8, ↓gI_9, ↓gI_10, ↓gR_0, ↓gR_1, ↓gR_2, ↓gR_3, ↓gR_4, ↓gR_5, ↓gR_6, ↓gR_7, ↓gR_8, ↓gR_9, ↓gR_10, ↓sL_0, ↓sL_1, ↓sL_2, ↓sL_3, ↓sL_4, ↓sL_5, ↓sL_6, ↓sL_7, ↓sL_8, ↓sL_9, ↓sL_10, ↓rrf_si, ↓rrf_sg, ↓shO_si, ↓shO_sg, ↓shO_sr, ↓shA_si, ↓shA_sg, ↓shA_sr, ↓pAs_0, ↓pAs_i, ↓pAs_r, stk_n, stk_i, stk_l, stk_r, List.nil_append, List.cons_append, true_and, and_true, true_or, or_true, Nat.zero_add, dp_s, Nat.reduceAdd, le8_0, le8_1, le8_2, le8_3, le8_4, le8_5, le8_6, le8_7, le8_8, Classical.not_not, aT40, aT41, aT42, aT44, aT54, aT58, aT59, rT54, rT58, rT59, reduceIte, Nat.reduceEqDiff, qn_42, qn_44, true_implies, not_true_eq_false, not_false_eq_true, false_implies, le_T, T_48, nT (show i < 2147483648 by omega), ↓shO_of hB.1.1, ↓rrf_of hB.1.2.2.2.2.2.2, ↓shO_of hI.1.1]
    refine ⟨fun c => by omega, fun _ => k60 hI ⟨_, rfl, ?_⟩⟩
    rw [keyOf_n (by omega)]
    have ih1 := ih (i + 1) (by omega)
    have e1 : cnt (hasK ch tb) (i + 1) = cnt (hasK ch tb) i + (if hasK ch tb i then 1 else 0) := rfl
    have e2 : rpF (hasK ch tb) x i (m + 1) = if (hasK ch tb i && decide (nI (cnt (hasK ch tb) i) = x)) then some i else rpF (hasK ch tb) x (i + 1) m := rfl
    rw [e1] at ih1
    rw [e2] at hk
    cases hp : plO ch tb (some i) with
    | none =>
      have hf : hasK ch tb i = false := by unfold hasK; rw [hp]; rfl
      rw [hf] at ih1 hk
      refine vc_X 30 _ _ _ _ _ _ _ ?_
      simp only [↓v64_0, ↓v64_1, ↓v64_4, ↓v64_7, ↓v64_8, ↓v64_11, ↓v64_12, ↓v64_13, ↓v64_14, ↓v64_15, ↓v64_16, ↓v64_17, ↓v64_18, ↓v64_20, ↓v64_23, ↓v64_24, ↓v64_27, ↓v64_28, ↓v64_31, ↓v64_32, ↓v64_35, ↓v64_36, ↓v64_37, ↓v64_40, ↓v64_41, ↓v64_42, ↓v64_45, ↓v64_48, ↓v64_51, ↓v64_52, ↓qI_c, ↓qL_c, ↓qR_c, ↓pA_o, ↓qC_i, ↓qC_r, ↓oA_s, ↓gI_0, ↓gI_1, ↓gI_2, ↓gI_3, ↓gI_4, ↓gI_5, ↓gI_6, ↓gI_7, ↓gI_8, ↓gI_9, ↓gI_10, ↓gR_0, ↓gR_1, ↓gR_2, ↓gR_3, ↓gR_4, ↓gR_5, ↓gR_6, ↓gR_7, ↓gR_8, ↓gR_9, ↓gR_10, ↓sL_0, ↓sL_1, ↓sL_2, ↓sL_3, ↓sL_4, ↓sL_5, ↓sL_6, ↓sL_7, ↓sL_8, ↓sL_9, ↓sL_10, ↓rrf_si, ↓rrf_sg, ↓shO_si, ↓shO_sg, ↓shO_sr, ↓shA_si, ↓shA_sg, ↓shA_sr, ↓pAs_0, ↓pAs_i, ↓pAs_r, stk_n, stk_i, stk_l, stk_r, List.nil_append, List.cons_append, true_and, and_true, true_or, or_true, Nat.zero_add, dp_s, Nat.reduceAdd, le8_0, le8_1, le8_2, le8_3, le8_4, le8_5, le8_6, le8_7, le8_8, Classical.not_not, aT40, aT41, aT42, aT44, aT54, aT58, aT59, rT54, rT58, rT59, reduceIte, Nat.reduceEqDiff, qn_42, qn_44, true_implies, not_true_eq_false, not_false_eq_true, false_implies, oI_none, m11, nI_1]
      exact ih1 hk
    | some p =>
      have ht : hasK ch tb i = true := by unfold hasK; rw [hp]; rfl
      have hp2 := plO_lt hI (show i < 48 by omega) hp
      have e3 : oI (some p) = nI p := rfl
      rw [ht] at ih1 hk
      refine vc_X 30 _ _ _ _ _ _ _ ?_
      simp only [↓v64_0, ↓v64_1, ↓v64_4, ↓v64_7, ↓v64_8, ↓v64_11, ↓v64_12, ↓v64_13, ↓v64_14, ↓v64_15, ↓v64_16, ↓v64_17, ↓v64_18, ↓v64_20, ↓v64_23, ↓v64_24, ↓v64_27, ↓v64_28, ↓v64_31, ↓v64_32, ↓v64_35, ↓v64_36, ↓v64_37, ↓v64_40, ↓v64_41, ↓v64_42, ↓v64_45, ↓v64_48, ↓v64_51, ↓v64_52, ↓qI_c, ↓qL_c, ↓qR_c, ↓pA_o, ↓qC_i, ↓qC_r, ↓oA_s, ↓gI_0, ↓gI_1, ↓gI_2, ↓gI_3, ↓gI_4, ↓gI_5, ↓gI_6, ↓gI_7, ↓gI_8, ↓gI_9, ↓gI_10, ↓gR_0, ↓gR_1, ↓gR_2, ↓gR_3, ↓gR_4, ↓gR_5, ↓gR_6, ↓gR_7, ↓gR_8, ↓gR_9, ↓gR_10, ↓sL_0, ↓sL_1, ↓sL_2, ↓sL_3, ↓sL_4, ↓sL_5, ↓sL_6, ↓sL_7, ↓sL_8, ↓sL_9, ↓sL_10, ↓rrf_si, ↓rrf_sg, ↓shO_si, ↓shO_sg, ↓shO_sr, ↓shA_si, ↓shA_sg, ↓shA_sr, ↓pAs_0, ↓pAs_i, ↓pAs_r, stk_n, stk_i, stk_l, stk_r, List.nil_append, List.cons_append, true_and, and_true, true_or, or_true, Nat.zero_add, dp_s, Nat.reduceAdd, le8_0, le8_1, le8_2, le8_3, le8_4, le8_5, le8_6, le8_7, le8_8, Classical.not_not, aT40, aT41, aT42, aT44, aT54, aT58, aT59, rT54, rT58, rT59, reduceIte, Nat.reduceEqDiff, qn_42, qn_44, true_implies, not_true_eq_false, not_false_eq_true, false_implies, e3, nI_nm (show p < 2147483648 by omega) (show ((-1 : Int32)).toInt < 0 by decide), nI_1]
      refine ⟨fun c => ?_, fun c => ?_⟩
      · rw [show decide (nI (cnt (hasK ch tb) i) = x) = false by simp; exact c] at hk
        exact ih1 hk
      · rw [show decide (nI (cnt (hasK ch tb) i) = x) = true by simp; exact c] at hk
        exact hk
theorem c64 {d : Nat} {M : Mm} {k : mQ} {b : Nat} {s : Ms} {x : Int32} (h : CM M b s) (hk : k (some (.inl (mList x s).1)) M) : XC (d + 4) 64 [.inr (some b), .inl x] M k := by
  obtain ⟨D, pm, ws, im, G, a, h, r⟩ := h
  have f18 : M.it b 18 = bI s.off := h.f18
  have hI : IxC M (b + 255) im s.ch s.tb := h.2.2.2.2.2.1
  refine xc ?_
  show X (d + 3) 64 0 [some (.inr (some b)), some (.inl x), none, none] [] M k
  unfold mList at hk
  cases ho : s.off with
  | true =>
    rw [ho, bI_t] at f18
    refine vc_X 20 _ _ _ _ _ _ _ ?_
    simp only [↓v64_0, ↓v64_1, ↓v64_4, ↓v64_7, ↓v64_8, ↓v64_11, ↓v64_12, ↓v64_13, ↓v64_14, ↓v64_15, ↓v64_16, ↓v64_17, ↓v64_18, ↓v64_20, ↓v64_23, ↓v64_24, ↓v64_27, ↓v64_28, ↓v64_31, ↓v64_32, ↓v64_35, ↓v64_36, ↓v64_37, ↓v64_40, ↓v64_41, ↓v64_42, ↓v64_45, ↓v64_48, ↓v64_51, ↓v64_52, ↓qI_c, ↓qL_c, ↓qR_c, ↓pA_o, ↓qC_i, ↓qC_r, ↓oA_s, ↓gI_0, ↓gI_1, ↓gI_2, ↓gI_3, ↓gI_4, ↓gI_5, ↓gI_6, ↓gI_7, ↓gI_8, ↓gI_9, ↓gI_10, ↓gR_0, ↓gR_1, ↓gR_2, ↓gR_3, ↓gR_4, ↓gR_5, ↓gR_6, ↓gR_7, ↓gR_8, ↓gR_9, ↓gR_10, ↓sL_0, ↓sL_1, ↓sL_2, ↓sL_3, ↓sL_4, ↓sL_5, ↓sL_6, ↓sL_7, ↓sL_8, ↓sL_9, ↓sL_10, ↓rrf_si, ↓rrf_sg, ↓shO_si, ↓shO_sg, ↓shO_sr, ↓shA_si, ↓shA_sg, ↓shA_sr, ↓pAs_0, ↓pAs_i, ↓pAs_r, stk_n, stk_i, stk_l, stk_r, List.nil_append, List.cons_append, true_and, and_true, true_or, or_true, Nat.zero_add, dp_s, Nat.reduceAdd, le8_0, le8_1, le8_2, le8_3, le8_4, le8_5, le8_6, le8_7, le8_8, Classical.not_not, aT40, aT41, aT42, aT44, aT54, aT58, aT59, rT54, rT58, rT59, reduceIte, Nat.reduceEqDiff, qn_42, qn_44, true_implies, not_true_eq_false, not_false_eq_true, false_implies, ↓shO_of h.1.1.1, f18, i10]
    rw [if_pos (Or.inl ho)] at hk
    exact hk
  | false =>
    rw [ho, bI_f] at f18
    by_cases hx : x.toInt < 0
    · refine vc_X 20 _ _ _ _ _ _ _ ?_
      simp only [↓v64_0, ↓v64_1, ↓v64_4, ↓v64_7, ↓v64_8, ↓v64_11, ↓v64_12, ↓v64_13, ↓v64_14, ↓v64_15, ↓v64_16, ↓v64_17, ↓v64_18, ↓v64_20, ↓v64_23, ↓v64_24, ↓v64_27, ↓v64_28, ↓v64_31, ↓v64_32, ↓v64_35, ↓v64_36, ↓v64_37, ↓v64_40, ↓v64_41, ↓v64_42, ↓v64_45, ↓v64_48, ↓v64_51, ↓v64_52, ↓qI_c, ↓qL_c, ↓qR_c, ↓pA_o, ↓qC_i, ↓qC_r, ↓oA_s, ↓gI_0, ↓gI_1, ↓gI_2, ↓gI_3, ↓gI_4, ↓gI_5, ↓gI_6, ↓gI_7, ↓gI_8, ↓gI_9, ↓gI_10, ↓gR_0, ↓gR_1, ↓gR_2, ↓gR_3, ↓gR_4, ↓gR_5, ↓gR_6, ↓gR_7, ↓gR_8, ↓gR_9, ↓gR_10, ↓sL_0, ↓sL_1, ↓sL_2, ↓sL_3, ↓sL_4, ↓sL_5, ↓sL_6, ↓sL_7, ↓sL_8, ↓sL_9, ↓sL_10, ↓rrf_si, ↓rrf_sg, ↓shO_si, ↓shO_sg, ↓shO_sr, ↓shA_si, ↓shA_sg, ↓shA_sr, ↓pAs_0, ↓pAs_i, ↓pAs_r, stk_n, stk_i, stk_l, stk_r, List.nil_append, List.cons_append, true_and, and_true, true_or, or_true, Nat.zero_add, dp_s, Nat.reduceAdd, le8_0, le8_1, le8_2, le8_3, le8_4, le8_5, le8_6, le8_7, le8_8, Classical.not_not, aT40, aT41, aT42, aT44, aT54, aT58, aT59, rT54, rT58, rT59, reduceIte, Nat.reduceEqDiff, qn_42, qn_44, true_implies, not_true_eq_false, not_false_eq_true, false_implies, ↓shO_of h.1.1.1, f18, i00, le_T, T_0]
      rw [if_pos (Or.inr hx)] at hk
      refine ⟨fun c => by omega, fun _ => hk⟩
    · refine vc_X 20 _ _ _ _ _ _ _ ?_
      simp only [↓v64_0, ↓v64_1, ↓v64_4, ↓v64_7, ↓v64_8, ↓v64_11, ↓v64_12, ↓v64_13, ↓v64_14, ↓v64_15, ↓v64_16, ↓v64_17, ↓v64_18, ↓v64_20, ↓v64_23, ↓v64_24, ↓v64_27, ↓v64_28, ↓v64_31, ↓v64_32, ↓v64_35, ↓v64_36, ↓v64_37, ↓v64_40, ↓v64_41, ↓v64_42, ↓v64_45, ↓v64_48, ↓v64_51, ↓v64_52, ↓qI_c, ↓qL_c, ↓qR_c, ↓pA_o, ↓qC_i, ↓qC_r, ↓oA_s, ↓gI_0, ↓gI_1, ↓gI_2, ↓gI_3, ↓gI_4, ↓gI_5, ↓gI_6, ↓gI_7, ↓gI_8, ↓gI_9, ↓gI_10, ↓gR_0, ↓gR_1, ↓gR_2, ↓gR_3, ↓gR_4, ↓gR_5, ↓gR_6, ↓gR_7, ↓gR_8, ↓gR_9, ↓gR_10, ↓sL_0, ↓sL_1, ↓sL_2, ↓sL_3, ↓sL_4, ↓sL_5, ↓sL_6, ↓sL_7, ↓sL_8, ↓sL_9, ↓sL_10, ↓rrf_si, ↓rrf_sg, ↓shO_si, ↓shO_sg, ↓shO_sr, ↓shA_si, ↓shA_sg, ↓shA_sr, ↓pAs_0, ↓pAs_i, ↓pAs_r, stk_n, stk_i, stk_l, stk_r, List.nil_append, List.cons_append, true_and, and_true, true_or, or_true, Nat.zero_add, dp_s, Nat.reduceAdd, le8_0, le8_1, le8_2, le8_3, le8_4, le8_5, le8_6, le8_7, le8_8, Classical.not_not, aT40, aT41, aT42, aT44, aT54, aT58, aT59, rT54, rT58, rT59, reduceIte, Nat.reduceEqDiff, qn_42, qn_44, true_implies, not_true_eq_false, not_false_eq_true, false_implies, ↓shO_of h.1.1.1, f18, i00, le_T, T_0]
      rw [if_neg (by rw [ho]; simp; omega)] at hk
      refine ⟨fun c => ?_, fun c => by omega⟩
      exact lop64 h.1 hI 48 0 (by omega) hk
