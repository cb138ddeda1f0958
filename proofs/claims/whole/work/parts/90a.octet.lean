/-! octet, feed -/
theorem mOct_s (i : Int32) (s : Ms) : (mOct i s).2 = s := by
  unfold mOct
  split <;> rfl
theorem c63 {d c : Nat} {M : Mm} {k : mQ} {b : Nat} {s : Ms} {i : Int32} (h : CM M b s) (hi : IvS c s) (hk : k (some (.inl (mOct i s).1)) M) : XC (d + 2) 63 [.inr (some b), .inl i] M k := by
  obtain ⟨D, pm, ws, im, G, a, h, r⟩ := h
  have hT := h.2.2.2.2.2.2.1.2.1
  have hl : s.ou.length ≤ 100 := hi.2.2.2.2.2.2.2.1
  have hl2 : (List.map nI s.T.2).length = s.ou.length := List.length_map ..
  refine xc ?_
  show X (d + 1) 63 0 [some (.inr (some b)), some (.inl i)] [] M k
  refine vc_X 20 _ _ _ _ _ _ _ ?_
  simp only [↓v63_0, ↓v63_1, ↓v63_4, ↓v63_5, ↓v63_8, ↓qI_c, ↓qL_c, ↓qR_c, ↓pA_o, ↓qC_i, ↓qC_r, ↓oA_s, ↓gI_0, ↓gI_1, ↓gI_2, ↓gI_3, ↓gI_4, ↓gI_5, ↓gI_6, ↓gI_7, ↓gI_8, ↓gI_9, ↓gI_10, ↓gR_0, ↓gR_1, ↓gR_2, ↓gR_3, ↓gR_4, ↓gR_5, ↓gR_6, ↓gR_7, ↓gR_8, ↓gR_9, ↓gR_10, ↓sL_0, ↓sL_1, ↓sL_2, ↓sL_3, ↓sL_4, ↓sL_5, ↓sL_6, ↓sL_7, ↓sL_8, ↓sL_9, ↓sL_10, ↓rrf_si, ↓rrf_sg, ↓shO_si, ↓shO_sg, ↓shO_sr, ↓shA_si, ↓shA_sg, ↓shA_sr, ↓pAs_0, ↓pAs_i, ↓pAs_r, stk_n, stk_i, stk_l, stk_r, List.nil_append, List.cons_append, true_and, and_true, true_or, or_true, Nat.zero_add, dp_s, Nat.reduceAdd, le8_0, le8_1, le8_2, le8_3, le8_4, le8_5, le8_6, le8_7, le8_8, Classical.not_not, aT40, aT41, aT42, aT44, aT54, aT58, aT59, rT54, rT58, rT59, reduceIte, Nat.reduceEqDiff, qn_42, qn_44, true_implies, not_true_eq_false, not_false_eq_true, false_implies, ↓shO_of h.1.1.1, ↓rrf_of h.1.2.1.2.1, ↓shO_of hT.1.1]
  unfold mOct at hk
  refine k36 hT (fun j v ej hj => ⟨_, rfl, ?_⟩) (fun c => ⟨_, rfl, ?_⟩)
  · refine vc_X 20 _ _ _ _ _ _ _ ?_
    simp only [↓v63_0, ↓v63_1, ↓v63_4, ↓v63_5, ↓v63_8, ↓qI_c, ↓qL_c, ↓qR_c, ↓pA_o, ↓qC_i, ↓qC_r, ↓oA_s, ↓gI_0, ↓gI_1, ↓gI_2, ↓gI_3, ↓gI_4, ↓gI_5, ↓gI_6, ↓gI_7, ↓gI_8, ↓gI_9, ↓gI_10, ↓gR_0, ↓gR_1, ↓gR_2, ↓gR_3, ↓gR_4, ↓gR_5, ↓gR_6, ↓gR_7, ↓gR_8, ↓gR_9, ↓gR_10, ↓sL_0, ↓sL_1, ↓sL_2, ↓sL_3, ↓sL_4, ↓sL_5, ↓sL_6, ↓sL_7, ↓sL_8, ↓sL_9, ↓sL_10, ↓rrf_si, ↓rrf_sg, ↓shO_si, ↓shO_sg, ↓shO_sr, ↓shA_si, ↓shA_sg, ↓shA_sr, ↓pAs_0, ↓pAs_i, ↓pAs_r, stk_n, stk_i, stk_l, stk_r, List.nil_append, List.cons_append, true_and, and_true, true_or, or_true, Nat.zero_add, dp_s, Nat.reduceAdd, le8_0, le8_1, le8_2, le8_3, le8_4, le8_5, le8_6, le8_7, le8_8, Classical.not_not, aT40, aT41, aT42, aT44, aT54, aT58, aT59, rT54, rT58, rT59, reduceIte, Nat.reduceEqDiff, qn_42, qn_44, true_implies, not_true_eq_false, not_false_eq_true, false_implies]
    have hj2 : j < s.ou.length := by rw [← hl2]; exact (List.getElem?_eq_some_iff.mp hj).1
    rw [ej, idx_of hj2 (by omega)] at hk
    have hv : v = nI ((s.ou[j]?).getD 0) := by
      rw [List.getElem?_map] at hj
      have e : s.ou[j]? = some s.ou[j] := List.getElem?_eq_getElem hj2
      have hj : Option.map nI (s.ou[j]?) = some v := hj
      rw [e] at hj ⊢
      cases hj
      rfl
    rw [hv]
    exact hk
  · refine vc_X 20 _ _ _ _ _ _ _ ?_
    simp only [↓v63_0, ↓v63_1, ↓v63_4, ↓v63_5, ↓v63_8, ↓qI_c, ↓qL_c, ↓qR_c, ↓pA_o, ↓qC_i, ↓qC_r, ↓oA_s, ↓gI_0, ↓gI_1, ↓gI_2, ↓gI_3, ↓gI_4, ↓gI_5, ↓gI_6, ↓gI_7, ↓gI_8, ↓gI_9, ↓gI_10, ↓gR_0, ↓gR_1, ↓gR_2, ↓gR_3, ↓gR_4, ↓gR_5, ↓gR_6, ↓gR_7, ↓gR_8, ↓gR_9, ↓gR_10, ↓sL_0, ↓sL_1, ↓sL_2, ↓sL_3, ↓sL_4, ↓sL_5, ↓sL_6, ↓sL_7, ↓sL_8, ↓sL_9, ↓sL_10, ↓rrf_si, ↓rrf_sg, ↓shO_si, ↓shO_sg, ↓shO_sr, ↓shA_si, ↓shA_sg, ↓shA_sr, ↓pAs_0, ↓pAs_i, ↓pAs_r, stk_n, stk_i, stk_l, stk_r, List.nil_append, List.cons_append, true_and, and_true, true_or, or_true, Nat.zero_add, dp_s, Nat.reduceAdd, le8_0, le8_1, le8_2, le8_3, le8_4, le8_5, le8_6, le8_7, le8_8, Classical.not_not, aT40, aT41, aT42, aT44, aT54, aT58, aT59, rT54, rT58, rT59, reduceIte, Nat.reduceEqDiff, qn_42, qn_44, true_implies, not_true_eq_false, not_false_eq_true, false_implies]
    cases he : idx i s.ou.length with
    | none => rw [he] at hk; exact hk
    | some j =>
      obtain ⟨e1, e2⟩ := idx_n he
      rw [hl2] at c
      exact absurd (by rw [e1]; exact inB_n e2 (by omega)) c
theorem k42b {d : Nat} {M : Mm} {k : mQ} {a c N : Nat} {l : List Nat} {v : Int32} (h : BC M a c N (l.map nI)) (hl : l.length + 4 ≤ N) (hk : ∀ M', BC M' a c N ((l ++ fdB v).map nI) → On [a, c] M M' → k none M') : XC (d + 3) 42 [.inr (some a), .inl v] M k := by
  refine k42 h (by rw [List.length_map]; exact hl) (fun M' h' o' => hk M' ?_ o')
  rw [by_24, by_16, by_8, by_0] at h'
  rw [List.map_append]
  exact h'
theorem fdB_lt (x : Int32) : ∀ v ∈ fdB x, v < 256 := by
  intro v hv
  unfold fdB byI at hv
  simp at hv
  omega
theorem c41 {d c : Nat} {M : Mm} {k : mQ} {b : Nat} {s : Ms} {x1 x2 x3 x4 x5 : Int32} (h : CM M b s) (hi : IvS c s) (hk : ∀ M', CM M' b (mFeed x1 x2 x3 x4 x5 s).2 → Fr b M M' → k (some (.inl (mFeed x1 x2 x3 x4 x5 s).1)) M') : XC (d + 4) 41 [.inr (some b), .inl x1, .inl x2, .inl x3, .inl x4, .inl x5] M k := by
  obtain ⟨D, pm, ws, im, G, a, h, r⟩ := h
  have hT0 := h.2.2.2.2.2.2.1
  have hT : BC M (b + 267) (b + 268) 200 (s.tp.map nI) := hT0.1
  have hl : s.tp.length ≤ 200 := hi.2.2.2.2.2.2.1.1
  have hc : M.it (b + 267) 1 = nI s.tp.length := by rw [hT.2.1, List.length_map]
  refine xc ?_
  show X (d + 3) 41 0 [some (.inr (some b)), some (.inl x1), some (.inl x2), some (.inl x3), some (.inl x4), some (.inl x5)] [] M k
  have e1 : nI s.tp.length + 20 = nI (s.tp.length + 20) := by rw [show (20 : Int32) = nI 20 from rfl, nI_add]
  unfold mFeed at hk
  refine vc_X 30 _ _ _ _ _ _ _ ?_
  simp only [↓v41_0, ↓v41_1, ↓v41_4, ↓v41_7, ↓v41_9, ↓v41_10, ↓v41_13, ↓v41_16, ↓v41_17, ↓v41_18, ↓v41_19, ↓v41_22, ↓v41_23, ↓v41_26, ↓v41_27, ↓v41_30, ↓v41_31, ↓v41_34, ↓v41_35, ↓v41_38, ↓v41_39, ↓v41_42, ↓v41_43, ↓v41_46, ↓v41_48, ↓v41_51, ↓v41_52, ↓v41_55, ↓v41_57, ↓v41_60, ↓v41_61, ↓v41_64, ↓v41_67, ↓qI_c, ↓qL_c, ↓qR_c, ↓pA_o, ↓qC_i, ↓qC_r, ↓oA_s, ↓gI_0, ↓gI_1, ↓gI_2, ↓gI_3, ↓gI_4, ↓gI_5, ↓gI_6, ↓gI_7, ↓gI_8, ↓gI_9, ↓gI_10, ↓gR_0, ↓gR_1, ↓gR_2, ↓gR_3, ↓gR_4, ↓gR_5, ↓gR_6, ↓gR_7, ↓gR_8, ↓gR_9, ↓gR_10, ↓sL_0, ↓sL_1, ↓sL_2, ↓sL_3, ↓sL_4, ↓sL_5, ↓sL_6, ↓sL_7, ↓sL_8, ↓sL_9, ↓sL_10, ↓rrf_si, ↓rrf_sg, ↓shO_si, ↓shO_sg, ↓shO_sr, ↓shA_si, ↓shA_sg, ↓shA_sr, ↓pAs_0, ↓pAs_i, ↓pAs_r, stk_n, stk_i, stk_l, stk_r, List.nil_append, List.cons_append, true_and, and_true, true_or, or_true, Nat.zero_add, dp_s, Nat.reduceAdd, le8_0, le8_1, le8_2, le8_3, le8_4, le8_5, le8_6, le8_7, le8_8, Classical.not_not, aT40, aT41, aT42, aT44, aT54, aT58, aT59, rT54, rT58, rT59, reduceIte, Nat.reduceEqDiff, qn_42, qn_44, true_implies, not_true_eq_false, not_false_eq_true, false_implies, ↓shO_of h.1.1.1, ↓rrf_of h.1.2.1.1, ↓shO_of hT.1.1, hc, e1, le_T, nT (show s.tp.length + 20 < 2147483648 by omega), T_200]
  refine ⟨fun c1 => ?_, fun c1 => ?_⟩
  · rw [if_neg (by omega)] at hk
    have GB : ∀ M' l, BC M' (b + 267) (b + 268) 200 (List.map nI l) → On [b + 267, b + 268] M M' → CpB M' b := fun M' l _ o => h.1.sr o.1 o.2.1 (fun x _ j _ => by rw [o.2.2.2.2.1])
    refine k42b hT (by omega) (fun M1 h1 o1 => ⟨rfl, ?_⟩)
    have B1 := GB M1 _ h1 o1
    have fl : ∀ x, (fdB x).length = 4 := fun x => rfl
    refine vc_X 30 _ _ _ _ _ _ _ ?_
    simp only [↓v41_0, ↓v41_1, ↓v41_4, ↓v41_7, ↓v41_9, ↓v41_10, ↓v41_13, ↓v41_16, ↓v41_17, ↓v41_18, ↓v41_19, ↓v41_22, ↓v41_23, ↓v41_26, ↓v41_27, ↓v41_30, ↓v41_31, ↓v41_34, ↓v41_35, ↓v41_38, ↓v41_39, ↓v41_42, ↓v41_43, ↓v41_46, ↓v41_48, ↓v41_51, ↓v41_52, ↓v41_55, ↓v41_57, ↓v41_60, ↓v41_61, ↓v41_64, ↓v41_67, ↓qI_c, ↓qL_c, ↓qR_c, ↓pA_o, ↓qC_i, ↓qC_r, ↓oA_s, ↓gI_0, ↓gI_1, ↓gI_2, ↓gI_3, ↓gI_4, ↓gI_5, ↓gI_6, ↓gI_7, ↓gI_8, ↓gI_9, ↓gI_10, ↓gR_0, ↓gR_1, ↓gR_2, ↓gR_3, ↓gR_4, ↓gR_5, ↓gR_6, ↓gR_7, ↓gR_8, ↓gR_9, ↓gR_10, ↓sL_0, ↓sL_1, ↓sL_2, ↓sL_3, ↓sL_4, ↓sL_5, ↓sL_6, ↓sL_7, ↓sL_8, ↓sL_9, ↓sL_10, ↓rrf_si, ↓rrf_sg, ↓shO_si, ↓shO_sg, ↓shO_sr, ↓shA_si, ↓shA_sg, ↓shA_sr, ↓pAs_0, ↓pAs_i, ↓pAs_r, stk_n, stk_i, stk_l, stk_r, List.nil_append, List.cons_append, true_and, and_true, true_or, or_true, Nat.zero_add, dp_s, Nat.reduceAdd, le8_0, le8_1, le8_2, le8_3, le8_4, le8_5, le8_6, le8_7, le8_8, Classical.not_not, aT40, aT41, aT42, aT44, aT54, aT58, aT59, rT54, rT58, rT59, reduceIte, Nat.reduceEqDiff, qn_42, qn_44, true_implies, not_true_eq_false, not_false_eq_true, false_implies, ↓shO_of B1.1.1, ↓rrf_of B1.2.1.1, ↓shO_of h1.1.1]
    refine k42b h1 (by simp [fl]; omega) (fun M2 h2 o2 => ⟨rfl, ?_⟩)
    have o2 := o1.trans o2 (fun _ x => x)
    have B2 := GB M2 _ h2 o2
    refine vc_X 30 _ _ _ _ _ _ _ ?_
    simp only [↓v41_0, ↓v41_1, ↓v41_4, ↓v41_7, ↓v41_9, ↓v41_10, ↓v41_13, ↓v41_16, ↓v41_17, ↓v41_18, ↓v41_19, ↓v41_22, ↓v41_23, ↓v41_26, ↓v41_27, ↓v41_30, ↓v41_31, ↓v41_34, ↓v41_35, ↓v41_38, ↓v41_39, ↓v41_42, ↓v41_43, ↓v41_46, ↓v41_48, ↓v41_51, ↓v41_52, ↓v41_55, ↓v41_57, ↓v41_60, ↓v41_61, ↓v41_64, ↓v41_67, ↓qI_c, ↓qL_c, ↓qR_c, ↓pA_o, ↓qC_i, ↓qC_r, ↓oA_s, ↓gI_0, ↓gI_1, ↓gI_2, ↓gI_3, ↓gI_4, ↓gI_5, ↓gI_6, ↓gI_7, ↓gI_8, ↓gI_9, ↓gI_10, ↓gR_0, ↓gR_1, ↓gR_2, ↓gR_3, ↓gR_4, ↓gR_5, ↓gR_6, ↓gR_7, ↓gR_8, ↓gR_9, ↓gR_10, ↓sL_0, ↓sL_1, ↓sL_2, ↓sL_3, ↓sL_4, ↓sL_5, ↓sL_6, ↓sL_7, ↓sL_8, ↓sL_9, ↓sL_10, ↓rrf_si, ↓rrf_sg, ↓shO_si, ↓shO_sg, ↓shO_sr, ↓shA_si, ↓shA_sg, ↓shA_sr, ↓pAs_0, ↓pAs_i, ↓pAs_r, stk_n, stk_i, stk_l, stk_r, List.nil_append, List.cons_append, true_and, and_true, true_or, or_true, Nat.zero_add, dp_s, Nat.reduceAdd, le8_0, le8_1, le8_2, le8_3, le8_4, le8_5, le8_6, le8_7, le8_8, Classical.not_not, aT40, aT41, aT42, aT44, aT54, aT58, aT59, rT54, rT58, rT59, reduceIte, Nat.reduceEqDiff, qn_42, qn_44, true_implies, not_true_eq_false, not_false_eq_true, false_implies, ↓shO_of B2.1.1, ↓rrf_of B2.2.1.1, ↓shO_of h2.1.1]
    refine k42b h2 (by simp [fl]; omega) (fun M3 h3 o3 => ⟨rfl, ?_⟩)
    have o3 := o2.trans o3 (fun _ x => x)
    have B3 := GB M3 _ h3 o3
    refine vc_X 30 _ _ _ _ _ _ _ ?_
    simp only [↓v41_0, ↓v41_1, ↓v41_4, ↓v41_7, ↓v41_9, ↓v41_10, ↓v41_13, ↓v41_16, ↓v41_17, ↓v41_18, ↓v41_19, ↓v41_22, ↓v41_23, ↓v41_26, ↓v41_27, ↓v41_30, ↓v41_31, ↓v41_34, ↓v41_35, ↓v41_38, ↓v41_39, ↓v41_42, ↓v41_43, ↓v41_46, ↓v41_48, ↓v41_51, ↓v41_52, ↓v41_55, ↓v41_57, ↓v41_60, ↓v41_61, ↓v41_64, ↓v41_67, ↓qI_c, ↓qL_c, ↓qR_c, ↓pA_o, ↓qC_i, ↓qC_r, ↓oA_s, ↓gI_0, ↓gI_1, ↓gI_2, ↓gI_3, ↓gI_4, ↓gI_5, ↓gI_6, ↓gI_7, ↓gI_8, ↓gI_9, ↓gI_10, ↓gR_0, ↓gR_1, ↓gR_2, ↓gR_3, ↓gR_4, ↓gR_5, ↓gR_6, ↓gR_7, ↓gR_8, ↓gR_9, ↓gR_10, ↓sL_0, ↓sL_1, ↓sL_2, ↓sL_3, ↓sL_4, ↓sL_5, ↓sL_6, ↓sL_7, ↓sL_8, ↓sL_9, ↓sL_10, ↓rrf_si, ↓rrf_sg, ↓shO_si, ↓shO_sg, ↓shO_sr, ↓shA_si, ↓shA_sg, ↓shA_sr, ↓pAs_0, ↓pAs_i, ↓pAs_r, stk_n, stk_i, stk_l, stk_r, List.nil_append, List.cons_append, true_and, and_true, true_or, or_true, Nat.zero_add, dp_s, Nat.reduceAdd, le8_0, le8_1, le8_2, le8_3, le8_4, le8_5, le8_6, le8_7, le8_8, Classical.not_not, aT40, aT41, aT42, aT44, aT54, aT58, aT59, rT54, rT58, rT59, reduceIte, Nat.reduceEqDiff, qn_42, qn_44, true_implies, not_true_eq_false, not_false_eq_true, false_implies, ↓shO_of B3.1.1, ↓rrf_of B3.2.1.1, ↓shO_of h3.1.1]
    refine k42b h3 (by simp [fl]; omega) (fun M4 h4 o4 => ⟨rfl, ?_⟩)
    have o4 := o3.trans o4 (fun _ x => x)
    have B4 := GB M4 _ h4 o4
    refine vc_X 30 _ _ _ _ _ _ _ ?_
    simp only [↓v41_0, ↓v41_1, ↓v41_4, ↓v41_7, ↓v41_9, ↓v41_10, ↓v41_13, ↓v41_16, ↓v41_17, ↓v41_18, ↓v41_19, ↓v41_22, ↓v41_23, ↓v41_26, ↓v41_27, ↓v41_30, ↓v41_31, ↓v41_34, ↓v41_35, ↓v41_38, ↓v41_39, ↓v41_42, ↓v41_43, ↓v41_46, ↓v41_48, ↓v41_51, ↓v41_52, ↓v41_55, ↓v41_57, ↓v41_60, ↓v41_61, ↓v41_64, ↓v41_67, ↓qI_c, ↓qL_c, ↓qR_c, ↓pA_o, ↓qC_i, ↓qC_r, ↓oA_s, ↓gI_0, ↓gI_1, ↓gI_2, ↓gI_3, ↓gI_4, ↓gI_5, ↓gI_6, ↓gI_7, ↓gI_8, ↓gI_9, ↓gI_10, ↓gR_0, ↓gR_1, ↓gR_2, ↓gR_3, ↓gR_4, ↓gR_5, ↓gR_6, ↓gR_7, ↓gR_8, ↓gR_9, ↓gR_10, ↓sL_0, ↓sL_1, ↓sL_2, ↓sL_3, ↓sL_4, ↓sL_5, ↓sL_6, ↓sL_7, ↓sL_8, ↓sL_9, ↓sL_10, ↓rrf_si, ↓rrf_sg, ↓shO_si, ↓shO_sg, ↓shO_sr, ↓shA_si, ↓shA_sg, ↓shA_sr, ↓pAs_0, ↓pAs_i, ↓pAs_r, stk_n, stk_i, stk_l, stk_r, List.nil_append, List.cons_append, true_and, and_true, true_or, or_true, Nat.zero_add, dp_s, Nat.reduceAdd, le8_0, le8_1, le8_2, le8_3, le8_4, le8_5, le8_6, le8_7, le8_8, Classical.not_not, aT40, aT41, aT42, aT44, aT54, aT58, aT59, rT54, rT58, rT59, reduceIte, Nat.reduceEqDiff, qn_42, qn_44, true_implies, not_true_eq_false, not_false_eq_true, false_implies, ↓shO_of B4.1.1, ↓rrf_of B4.2.1.1, ↓shO_of h4.1.1]
    refine k42b h4 (by simp [fl]; omega) (fun M5 h5 o5 => ⟨rfl, ?_⟩)
    have o5 := o4.trans o5 (fun _ x => x)
    have B5 := GB M5 _ h5 o5
    have hl5 : (s.tp ++ fdB x1 ++ fdB x2 ++ fdB x3 ++ fdB x4 ++ fdB x5).length = s.tp.length + 20 := by simp [fl]
    have hc5 : M5.it (b + 267) 1 = nI (s.tp.length + 20) := by rw [h5.2.1, List.length_map, hl5]
    refine vc_X 30 _ _ _ _ _ _ _ ?_
    simp only [↓v41_0, ↓v41_1, ↓v41_4, ↓v41_7, ↓v41_9, ↓v41_10, ↓v41_13, ↓v41_16, ↓v41_17, ↓v41_18, ↓v41_19, ↓v41_22, ↓v41_23, ↓v41_26, ↓v41_27, ↓v41_30, ↓v41_31, ↓v41_34, ↓v41_35, ↓v41_38, ↓v41_39, ↓v41_42, ↓v41_43, ↓v41_46, ↓v41_48, ↓v41_51, ↓v41_52, ↓v41_55, ↓v41_57, ↓v41_60, ↓v41_61, ↓v41_64, ↓v41_67, ↓qI_c, ↓qL_c, ↓qR_c, ↓pA_o, ↓qC_i, ↓qC_r, ↓oA_s, ↓gI_0, ↓gI_1, ↓gI_2, ↓gI_3, ↓gI_4, ↓gI_5, ↓gI_6, ↓gI_7, ↓gI_8, ↓gI_9, ↓gI_10, ↓gR_0, ↓gR_1, ↓gR_2, ↓gR_3, ↓gR_4, ↓gR_5, ↓gR_6, ↓gR_7, ↓gR_8, ↓gR_9, ↓gR_10, ↓sL_0, ↓sL_1, ↓sL_2, ↓sL_3, ↓sL_4, ↓sL_5, ↓sL_6, ↓sL_7, ↓sL_8, ↓sL_9, ↓sL_10, ↓rrf_si, ↓rrf_sg, ↓shO_si, ↓shO_sg, ↓shO_sr, ↓shA_si, ↓shA_sg, ↓shA_sr, ↓pAs_0, ↓pAs_i, ↓pAs_r, stk_n, stk_i, stk_l, stk_r, List.nil_append, List.cons_append, true_and, and_true, true_or, or_true, Nat.zero_add, dp_s, Nat.reduceAdd, le8_0, le8_1, le8_2, le8_3, le8_4, le8_5, le8_6, le8_7, le8_8, Classical.not_not, aT40, aT41, aT42, aT44, aT54, aT58, aT59, rT54, rT58, rT59, reduceIte, Nat.reduceEqDiff, qn_42, qn_44, true_implies, not_true_eq_false, not_false_eq_true, false_implies, ↓shO_of B5.1.1, ↓rrf_of B5.2.1.1, ↓shO_of h5.1.1, hc5]
    have el : s.tp ++ (fdB x1 ++ fdB x2 ++ fdB x3 ++ fdB x4 ++ fdB x5) = s.tp ++ fdB x1 ++ fdB x2 ++ fdB x3 ++ fdB x4 ++ fdB x5 := by simp only [List.append_assoc]
    have ofr : Of (fun y => b + 267 ≤ y ∧ y < b + 271) M M5 := o5.of (fun x hx => by simp at hx; omega)
    refine hk M5 ⟨D, pm, ws, im, G, a, h.upT ?_ ofr, r⟩ (ofr.fr (fun x hx => by omega))
    have g5 : Ag (fun y => y ≠ b + 267 ∧ y ≠ b + 268) M M5 := (o5.of (P := fun y => y = b + 267 ∨ y = b + 268) (fun x hx => by simpa using hx)).ag (fun x hx hP => by omega)
    refine ⟨?_, hT0.2.1.ag g5 (by omega) (by omega), ?_, hT0.2.2.2⟩
    · show BC M5 (b + 267) (b + 268) 200 (List.map nI (s.tp ++ (fdB x1 ++ fdB x2 ++ fdB x3 ++ fdB x4 ++ fdB x5)))
      rw [el]
      exact h5
    · intro v hv
      have hv : v ∈ s.tp ++ (fdB x1 ++ fdB x2 ++ fdB x3 ++ fdB x4 ++ fdB x5) := hv
      simp only [List.mem_append] at hv
      rcases hv with hv | (((hv | hv) | hv) | hv) | hv
      · exact hT0.2.2.1 v hv
      all_goals exact fdB_lt _ v hv
  · rw [if_pos (by omega)] at hk
    exact hk M ⟨D, pm, ws, im, G, a, h, r⟩ Fr.rf_
