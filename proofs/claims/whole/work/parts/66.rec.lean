/-! Rec and Disk -/
abbrev RecT : Type := Nat × Nat × Nat × (Nat → Nat) × List Nat
def ReC (M : Mm) (a : Nat) (r : RecT) : Prop := (M.sh a = some (8, 0) ∧ M.rf a 3 = some (a + 1) ∧ M.rf a 4 = some (a + 2) ∧ M.sh (a + 1) = some (41, 8) ∧ M.sh (a + 2) = some (41, r.2.2.2.2.length)) ∧ M.it a 0 = nI r.1 ∧ M.it a 1 = nI r.2.1 ∧ M.it a 2 = nI r.2.2.1 ∧ (∀ e, e < 8 → M.it (a + 1) e = nI (r.2.2.2.1 e) ∧ r.2.2.2.1 e ≤ 16) ∧ (∀ i v, r.2.2.2.2[i]? = some v → M.it (a + 2) i = nI v ∧ v < 128) ∧ r.2.2.2.2.length ≤ 3 ∧ r.1 < 100000 ∧ r.2.1 < 100000 ∧ r.2.2.1 < 1000000
theorem ReC.keep {M M' : Mm} {A : List Nat} {a : Nat} {r : RecT} (h : ReC M a r) (o : On A M M') (h0 : a ∉ A) (h1 : a + 1 ∉ A) (h2 : a + 2 ∉ A) : ReC M' a r := by
  obtain ⟨⟨b1, b2, b3, b4, b5⟩, g1, g2, g3, g4, g5, g6⟩ := h
  exact ⟨⟨by rw [o.1]; exact b1, by rw [o.2.2.2.2.1]; exact b2, by rw [o.2.2.2.2.1]; exact b3, by rw [o.1]; exact b4, by rw [o.1]; exact b5⟩, by rw [o.2.2.2.2.2 a h0]; exact g1, by rw [o.2.2.2.2.2 a h0]; exact g2, by rw [o.2.2.2.2.2 a h0]; exact g3, fun e he => by rw [o.2.2.2.2.2 _ h1]; exact g4 e he, fun i v hv => by rw [o.2.2.2.2.2 _ h2]; exact g5 i v hv, g6⟩
theorem k18 {d : Nat} {M : Mm} {k : mQ} {a e : Nat} {r : RecT} (h : ReC M a r) (he : e < 8) (hk : k (some (.inl (nI (r.2.2.2.1 e)))) M) : XC (d + 1) 18 [.inr (some a), .inl (nI e)] M k := by
  obtain ⟨⟨b1, b2, b3, b4, b5⟩, g1, g2, g3, g4, g5, g6⟩ := h
  refine xc ?_
  show X d 18 0 [some (.inr (some a)), some (.inl (nI e))] [] M k
  refine vc_X 20 _ _ _ _ _ _ _ ?_
  simp only [↓v18_0, ↓v18_1, ↓v18_4, ↓v18_5, ↓v18_6, ↓v18_9, ↓v18_10, ↓v18_13, ↓v18_14, ↓v18_17, ↓v18_18, ↓v18_19, ↓v18_22, ↓v18_23, ↓qI_c, ↓qL_c, ↓qR_c, ↓pA_o, ↓qC_i, ↓qC_r, ↓oA_s, ↓gI_0, ↓gI_1, ↓gI_2, ↓gI_3, ↓gI_4, ↓gI_5, ↓gI_6, ↓gI_7, ↓gI_8, ↓gI_9, ↓gI_10, ↓gR_0, ↓gR_1, ↓gR_2, ↓gR_3, ↓gR_4, ↓gR_5, ↓gR_6, ↓gR_7, ↓gR_8, ↓gR_9, ↓gR_10, ↓sL_0, ↓sL_1, ↓sL_2, ↓sL_3, ↓sL_4, ↓sL_5, ↓sL_6, ↓sL_7, ↓sL_8, ↓sL_9, ↓sL_10, ↓rrf_si, ↓rrf_sg, ↓shO_si, ↓shO_sg, ↓shO_sr, ↓shA_si, ↓shA_sg, ↓shA_sr, ↓pAs_0, ↓pAs_i, ↓pAs_r, stk_n, stk_i, stk_l, stk_r, List.nil_append, List.cons_append, true_and, and_true, true_or, or_true, Nat.zero_add, dp_s, Nat.reduceAdd, le8_0, le8_1, le8_2, le8_3, le8_4, le8_5, le8_6, le8_7, le8_8, Classical.not_not, aT40, aT41, aT42, aT44, aT54, aT58, aT59, rT54, rT58, rT59, reduceIte, Nat.reduceEqDiff, qn_42, qn_44, true_implies, not_true_eq_false, not_false_eq_true, false_implies, ↓shO_of b1, ↓rrf_of b2, ↓shA_of b4, lt_T, le_T, nT (show e < 2147483648 by omega), nT (show 8 < 2147483648 by omega), T_0, nC (show e < 2147483648 by omega), (g4 e he).1]
  exact ⟨fun c => by omega, fun _ => ⟨fun c => by omega, fun _ => ⟨inB_n he (by omega), hk⟩⟩⟩
theorem k20 {d : Nat} {M : Mm} {k : mQ} {a : Nat} {r : RecT} (h : ReC M a r) (hk : k (some (.inl (nI r.2.2.2.2.length))) M) : XC (d + 1) 20 [.inr (some a)] M k := by
  obtain ⟨⟨b1, b2, b3, b4, b5⟩, g1, g2, g3, g4, g5, g6⟩ := h
  refine xc ?_
  show X d 20 0 [some (.inr (some a))] [] M k
  refine vc_X 20 _ _ _ _ _ _ _ ?_
  simp only [↓v20_0, ↓v20_1, ↓v20_4, ↓v20_5, ↓qI_c, ↓qL_c, ↓qR_c, ↓pA_o, ↓qC_i, ↓qC_r, ↓oA_s, ↓gI_0, ↓gI_1, ↓gI_2, ↓gI_3, ↓gI_4, ↓gI_5, ↓gI_6, ↓gI_7, ↓gI_8, ↓gI_9, ↓gI_10, ↓gR_0, ↓gR_1, ↓gR_2, ↓gR_3, ↓gR_4, ↓gR_5, ↓gR_6, ↓gR_7, ↓gR_8, ↓gR_9, ↓gR_10, ↓sL_0, ↓sL_1, ↓sL_2, ↓sL_3, ↓sL_4, ↓sL_5, ↓sL_6, ↓sL_7, ↓sL_8, ↓sL_9, ↓sL_10, ↓rrf_si, ↓rrf_sg, ↓shO_si, ↓shO_sg, ↓shO_sr, ↓shA_si, ↓shA_sg, ↓shA_sr, ↓pAs_0, ↓pAs_i, ↓pAs_r, stk_n, stk_i, stk_l, stk_r, List.nil_append, List.cons_append, true_and, and_true, true_or, or_true, Nat.zero_add, dp_s, Nat.reduceAdd, le8_0, le8_1, le8_2, le8_3, le8_4, le8_5, le8_6, le8_7, le8_8, Classical.not_not, aT40, aT41, aT42, aT44, aT54, aT58, aT59, rT54, rT58, rT59, reduceIte, Nat.reduceEqDiff, qn_42, qn_44, true_implies, not_true_eq_false, not_false_eq_true, false_implies, ↓shO_of b1, ↓rrf_of b3, ↓shA_of b5]
  exact hk
theorem k21 {d : Nat} {M : Mm} {k : mQ} {a i v : Nat} {r : RecT} (h : ReC M a r) (hi : r.2.2.2.2[i]? = some v) (hk : k (some (.inl (nI v))) M) : XC (d + 1) 21 [.inr (some a), .inl (nI i)] M k := by
  obtain ⟨⟨b1, b2, b3, b4, b5⟩, g1, g2, g3, g4, g5, g6, -⟩ := h
  have hl : i < r.2.2.2.2.length := (List.getElem?_eq_some_iff.mp hi).1
  refine xc ?_
  show X d 21 0 [some (.inr (some a)), some (.inl (nI i))] [] M k
  refine vc_X 20 _ _ _ _ _ _ _ ?_
  simp only [↓v21_0, ↓v21_1, ↓v21_4, ↓v21_5, ↓v21_6, ↓v21_9, ↓v21_10, ↓v21_13, ↓v21_14, ↓v21_17, ↓v21_18, ↓v21_19, ↓v21_22, ↓v21_23, ↓qI_c, ↓qL_c, ↓qR_c, ↓pA_o, ↓qC_i, ↓qC_r, ↓oA_s, ↓gI_0, ↓gI_1, ↓gI_2, ↓gI_3, ↓gI_4, ↓gI_5, ↓gI_6, ↓gI_7, ↓gI_8, ↓gI_9, ↓gI_10, ↓gR_0, ↓gR_1, ↓gR_2, ↓gR_3, ↓gR_4, ↓gR_5, ↓gR_6, ↓gR_7, ↓gR_8, ↓gR_9, ↓gR_10, ↓sL_0, ↓sL_1, ↓sL_2, ↓sL_3, ↓sL_4, ↓sL_5, ↓sL_6, ↓sL_7, ↓sL_8, ↓sL_9, ↓sL_10, ↓rrf_si, ↓rrf_sg, ↓shO_si, ↓shO_sg, ↓shO_sr, ↓shA_si, ↓shA_sg, ↓shA_sr, ↓pAs_0, ↓pAs_i, ↓pAs_r, stk_n, stk_i, stk_l, stk_r, List.nil_append, List.cons_append, true_and, and_true, true_or, or_true, Nat.zero_add, dp_s, Nat.reduceAdd, le8_0, le8_1, le8_2, le8_3, le8_4, le8_5, le8_6, le8_7, le8_8, Classical.not_not, aT40, aT41, aT42, aT44, aT54, aT58, aT59, rT54, rT58, rT59, reduceIte, Nat.reduceEqDiff, qn_42, qn_44, true_implies, not_true_eq_false, not_false_eq_true, false_implies, ↓shO_of b1, ↓rrf_of b3, ↓shA_of b5, lt_T, le_T, nT (show i < 2147483648 by omega), nT (show r.2.2.2.2.length < 2147483648 by omega), T_0, nC (show i < 2147483648 by omega), (g5 i v hi).1]
  exact ⟨fun c => by omega, fun _ => ⟨fun c => by omega, fun _ => ⟨inB_n hl (by omega), hk⟩⟩⟩
theorem k81 {d : Nat} {M : Mm} {k : mQ} {a : Nat} {r : RecT} (h : ReC M a r) (hk : k (some (.inl (nI (r.1 % 2)))) M) : XC (d + 1) 81 [.inr (some a)] M k := by
  obtain ⟨⟨b1, b2, b3, b4, b5⟩, g1, g2, g3, g4, g5, g6, g7, -⟩ := h
  refine xc ?_
  show X d 81 0 [some (.inr (some a))] [] M k
  refine vc_X 20 _ _ _ _ _ _ _ ?_
  simp only [↓v81_0, ↓v81_1, ↓v81_4, ↓v81_5, ↓v81_6, ↓qI_c, ↓qL_c, ↓qR_c, ↓pA_o, ↓qC_i, ↓qC_r, ↓oA_s, ↓gI_0, ↓gI_1, ↓gI_2, ↓gI_3, ↓gI_4, ↓gI_5, ↓gI_6, ↓gI_7, ↓gI_8, ↓gI_9, ↓gI_10, ↓gR_0, ↓gR_1, ↓gR_2, ↓gR_3, ↓gR_4, ↓gR_5, ↓gR_6, ↓gR_7, ↓gR_8, ↓gR_9, ↓gR_10, ↓sL_0, ↓sL_1, ↓sL_2, ↓sL_3, ↓sL_4, ↓sL_5, ↓sL_6, ↓sL_7, ↓sL_8, ↓sL_9, ↓sL_10, ↓rrf_si, ↓rrf_sg, ↓shO_si, ↓shO_sg, ↓shO_sr, ↓shA_si, ↓shA_sg, ↓shA_sr, ↓pAs_0, ↓pAs_i, ↓pAs_r, stk_n, stk_i, stk_l, stk_r, List.nil_append, List.cons_append, true_and, and_true, true_or, or_true, Nat.zero_add, dp_s, Nat.reduceAdd, le8_0, le8_1, le8_2, le8_3, le8_4, le8_5, le8_6, le8_7, le8_8, Classical.not_not, aT40, aT41, aT42, aT44, aT54, aT58, aT59, rT54, rT58, rT59, reduceIte, Nat.reduceEqDiff, qn_42, qn_44, true_implies, not_true_eq_false, not_false_eq_true, false_implies, ↓shO_of b1, g1]
  rw [pk_andN (by omega) 1 (by decide)]
  exact hk
/-- what a record tells of a number from 12 on: the extents and blocks of its tables -/
def tellT (tabs : List Nat) (j : Nat) : Int32 := match tabs[j / 2]? with
  | some v => if j % 2 = 0 then nI (v / 16) else nI (v % 16)
  | none => -1
def tellR (r : RecT) (j : Nat) : Int32 := if j = 0 then nI r.1 else if j = 1 then nI r.2.1 else if j = 2 then nI r.2.2.1 else if j = 3 then nI r.2.2.2.2.length else if j < 12 then nI (r.2.2.2.1 (j - 4)) else tellT r.2.2.2.2 (j - 12)
theorem k115 {d : Nat} {M : Mm} {k : mQ} {a : Nat} {x : Int32} {r : RecT} (h : ReC M a r) (h1 : ∀ j, j < 6 → x = nI j → k (some (.inl (tellT r.2.2.2.2 j))) M) (h0 : x.toInt < 0 ∨ 6 ≤ x.toInt → k (some (.inl (-1))) M) : XC (d + 2) 115 [.inr (some a), .inl x] M k := by
  have g6 := h.2.2.2.2.2.2.1
  refine xc ?_
  show X (d + 1) 115 0 [some (.inr (some a)), some (.inl x), none] [] M k
  refine vc_X 40 _ _ _ _ _ _ _ ?_
  simp only [↓v115_0, ↓v115_1, ↓v115_4, ↓v115_5, ↓v115_6, ↓v115_7, ↓v115_10, ↓v115_11, ↓v115_14, ↓v115_15, ↓v115_16, ↓v115_17, ↓v115_18, ↓v115_19, ↓v115_20, ↓v115_23, ↓v115_24, ↓v115_25, ↓v115_26, ↓v115_27, ↓v115_30, ↓v115_31, ↓v115_33, ↓v115_34, ↓v115_37, ↓v115_38, ↓v115_40, ↓v115_41, ↓qI_c, ↓qL_c, ↓qR_c, ↓pA_o, ↓qC_i, ↓qC_r, ↓oA_s, ↓gI_0, ↓gI_1, ↓gI_2, ↓gI_3, ↓gI_4, ↓gI_5, ↓gI_6, ↓gI_7, ↓gI_8, ↓gI_9, ↓gI_10, ↓gR_0, ↓gR_1, ↓gR_2, ↓gR_3, ↓gR_4, ↓gR_5, ↓gR_6, ↓gR_7, ↓gR_8, ↓gR_9, ↓gR_10, ↓sL_0, ↓sL_1, ↓sL_2, ↓sL_3, ↓sL_4, ↓sL_5, ↓sL_6, ↓sL_7, ↓sL_8, ↓sL_9, ↓sL_10, ↓rrf_si, ↓rrf_sg, ↓shO_si, ↓shO_sg, ↓shO_sr, ↓shA_si, ↓shA_sg, ↓shA_sr, ↓pAs_0, ↓pAs_i, ↓pAs_r, stk_n, stk_i, stk_l, stk_r, List.nil_append, List.cons_append, true_and, and_true, true_or, or_true, Nat.zero_add, dp_s, Nat.reduceAdd, le8_0, le8_1, le8_2, le8_3, le8_4, le8_5, le8_6, le8_7, le8_8, Classical.not_not, aT40, aT41, aT42, aT44, aT54, aT58, aT59, rT54, rT58, rT59, reduceIte, Nat.reduceEqDiff, qn_42, qn_44, true_implies, not_true_eq_false, not_false_eq_true, false_implies, ↓shO_of h.1.1, lt_T, le_T, T_0]
  refine ⟨fun c => h0 (Or.inl (by omega)), fun c => k20 h ⟨_, rfl, ?_⟩⟩
  refine vc_X 40 _ _ _ _ _ _ _ ?_
  simp only [↓v115_0, ↓v115_1, ↓v115_4, ↓v115_5, ↓v115_6, ↓v115_7, ↓v115_10, ↓v115_11, ↓v115_14, ↓v115_15, ↓v115_16, ↓v115_17, ↓v115_18, ↓v115_19, ↓v115_20, ↓v115_23, ↓v115_24, ↓v115_25, ↓v115_26, ↓v115_27, ↓v115_30, ↓v115_31, ↓v115_33, ↓v115_34, ↓v115_37, ↓v115_38, ↓v115_40, ↓v115_41, ↓qI_c, ↓qL_c, ↓qR_c, ↓pA_o, ↓qC_i, ↓qC_r, ↓oA_s, ↓gI_0, ↓gI_1, ↓gI_2, ↓gI_3, ↓gI_4, ↓gI_5, ↓gI_6, ↓gI_7, ↓gI_8, ↓gI_9, ↓gI_10, ↓gR_0, ↓gR_1, ↓gR_2, ↓gR_3, ↓gR_4, ↓gR_5, ↓gR_6, ↓gR_7, ↓gR_8, ↓gR_9, ↓gR_10, ↓sL_0, ↓sL_1, ↓sL_2, ↓sL_3, ↓sL_4, ↓sL_5, ↓sL_6, ↓sL_7, ↓sL_8, ↓sL_9, ↓sL_10, ↓rrf_si, ↓rrf_sg, ↓shO_si, ↓shO_sg, ↓shO_sr, ↓shA_si, ↓shA_sg, ↓shA_sr, ↓pAs_0, ↓pAs_i, ↓pAs_r, stk_n, stk_i, stk_l, stk_r, List.nil_append, List.cons_append, true_and, and_true, true_or, or_true, Nat.zero_add, dp_s, Nat.reduceAdd, le8_0, le8_1, le8_2, le8_3, le8_4, le8_5, le8_6, le8_7, le8_8, Classical.not_not, aT40, aT41, aT42, aT44, aT54, aT58, aT59, rT54, rT58, rT59, reduceIte, Nat.reduceEqDiff, qn_42, qn_44, true_implies, not_true_eq_false, not_false_eq_true, false_implies, ↓shO_of h.1.1, n_2, pk_mul, lt_T, le_T, nT (show 2 * r.2.2.2.2.length < 2147483648 by omega)]
  refine ⟨fun c2 => ?_, fun c2 => ?_⟩
  · obtain ⟨j, hj, rfl⟩ := inB_of (x := x) (n := 6) ⟨by omega, by omega⟩ (by omega)
    rw [nT (by omega)] at c2
    have hlt : j / 2 < r.2.2.2.2.length := by omega
    have hv : r.2.2.2.2[j / 2]? = some r.2.2.2.2[j / 2] := List.getElem?_eq_getElem hlt
    have hv128 := (h.2.2.2.2.2.1 _ _ hv).2
    rw [pk_div (by omega) (by omega) (by omega)]
    refine ⟨by decide, k21 h hv ⟨_, rfl, ?_⟩⟩
    have hk := h1 j hj rfl
    unfold tellT at hk
    rw [hv] at hk
    generalize r.2.2.2.2[j / 2] = v at hk hv128
    refine vc_X 40 _ _ _ _ _ _ _ ?_
    simp only [↓v115_0, ↓v115_1, ↓v115_4, ↓v115_5, ↓v115_6, ↓v115_7, ↓v115_10, ↓v115_11, ↓v115_14, ↓v115_15, ↓v115_16, ↓v115_17, ↓v115_18, ↓v115_19, ↓v115_20, ↓v115_23, ↓v115_24, ↓v115_25, ↓v115_26, ↓v115_27, ↓v115_30, ↓v115_31, ↓v115_33, ↓v115_34, ↓v115_37, ↓v115_38, ↓v115_40, ↓v115_41, ↓qI_c, ↓qL_c, ↓qR_c, ↓pA_o, ↓qC_i, ↓qC_r, ↓oA_s, ↓gI_0, ↓gI_1, ↓gI_2, ↓gI_3, ↓gI_4, ↓gI_5, ↓gI_6, ↓gI_7, ↓gI_8, ↓gI_9, ↓gI_10, ↓gR_0, ↓gR_1, ↓gR_2, ↓gR_3, ↓gR_4, ↓gR_5, ↓gR_6, ↓gR_7, ↓gR_8, ↓gR_9, ↓gR_10, ↓sL_0, ↓sL_1, ↓sL_2, ↓sL_3, ↓sL_4, ↓sL_5, ↓sL_6, ↓sL_7, ↓sL_8, ↓sL_9, ↓sL_10, ↓rrf_si, ↓rrf_sg, ↓shO_si, ↓shO_sg, ↓shO_sr, ↓shA_si, ↓shA_sg, ↓shA_sr, ↓pAs_0, ↓pAs_i, ↓pAs_r, stk_n, stk_i, stk_l, stk_r, List.nil_append, List.cons_append, true_and, and_true, true_or, or_true, Nat.zero_add, dp_s, Nat.reduceAdd, le8_0, le8_1, le8_2, le8_3, le8_4, le8_5, le8_6, le8_7, le8_8, Classical.not_not, aT40, aT41, aT42, aT44, aT54, aT58, aT59, rT54, rT58, rT59, reduceIte, Nat.reduceEqDiff, qn_42, qn_44, true_implies, not_true_eq_false, not_false_eq_true, false_implies, n_2, n_16]
    rw [pk_rem (a := j) (by omega) (by omega) (by omega), pk_rem (a := v) (by omega) (by omega) (by omega), pk_div (a := v) (by omega) (by omega) (by omega)]
    refine ⟨by decide, fun c => ⟨by decide, ?_⟩, fun c => ⟨by decide, ?_⟩⟩
    · have hj2 : ¬ j % 2 = 0 := fun q => c (by rw [q]; rfl)
      have hk : k (some (.inl (if j % 2 = 0 then nI (v / 16) else nI (v % 16)))) M := hk
      rw [if_neg hj2] at hk
      exact hk
    · have hj2 : j % 2 = 0 := by
        rw [eq_T, nT (by omega), T_0] at c
        omega
      have hk : k (some (.inl (if j % 2 = 0 then nI (v / 16) else nI (v % 16)))) M := hk
      rw [if_pos hj2] at hk
      exact hk
  · by_cases h6 : 6 ≤ x.toInt
    · exact h0 (Or.inr h6)
    · obtain ⟨j, hj, rfl⟩ := inB_of (x := x) (n := 6) ⟨by omega, by omega⟩ (by omega)
      rw [nT (by omega)] at c2
      have := h1 j hj rfl
      rw [show tellT r.2.2.2.2 j = -1 by unfold tellT; rw [List.getElem?_eq_none (by omega)]] at this
      exact this
theorem k114 {d : Nat} {M : Mm} {k : mQ} {a : Nat} {x : Int32} {r : RecT} (h : ReC M a r) (h1 : ∀ j, j < 18 → x = nI j → k (some (.inl (tellR r j))) M) (h0 : ¬ inB x 18 → k (some (.inl (-1))) M) : XC (d + 3) 114 [.inr (some a), .inl x] M k := by
  obtain ⟨⟨b1, b2, b3, b4, b5⟩, g1, g2, g3, g4, g5, g6, -⟩ := id h
  refine xc ?_
  show X (d + 2) 114 0 [some (.inr (some a)), some (.inl x)] [] M k
  by_cases hx : inB x 18
  · obtain ⟨j, hj, rfl⟩ := inB_of hx (by omega)
    have hk := h1 j hj rfl
    refine vc_X 40 _ _ _ _ _ _ _ ?_
    simp only [↓v114_0, ↓v114_1, ↓v114_2, ↓v114_5, ↓v114_6, ↓v114_8, ↓v114_11, ↓v114_12, ↓v114_13, ↓v114_14, ↓v114_15, ↓v114_18, ↓v114_19, ↓v114_20, ↓v114_52, ↓v114_53, ↓v114_56, ↓v114_57, ↓v114_58, ↓v114_61, ↓v114_62, ↓v114_63, ↓v114_66, ↓v114_67, ↓v114_68, ↓v114_71, ↓v114_72, ↓v114_73, ↓v114_74, ↓v114_75, ↓v114_76, ↓v114_78, ↓v114_79, ↓v114_82, ↓qI_c, ↓qL_c, ↓qR_c, ↓pA_o, ↓qC_i, ↓qC_r, ↓oA_s, ↓gI_0, ↓gI_1, ↓gI_2, ↓gI_3, ↓gI_4, ↓gI_5, ↓gI_6, ↓gI_7, ↓gI_8, ↓gI_9, ↓gI_10, ↓gR_0, ↓gR_1, ↓gR_2, ↓gR_3, ↓gR_4, ↓gR_5, ↓gR_6, ↓gR_7, ↓gR_8, ↓gR_9, ↓gR_10, ↓sL_0, ↓sL_1, ↓sL_2, ↓sL_3, ↓sL_4, ↓sL_5, ↓sL_6, ↓sL_7, ↓sL_8, ↓sL_9, ↓sL_10, ↓rrf_si, ↓rrf_sg, ↓shO_si, ↓shO_sg, ↓shO_sr, ↓shA_si, ↓shA_sg, ↓shA_sr, ↓pAs_0, ↓pAs_i, ↓pAs_r, stk_n, stk_i, stk_l, stk_r, List.nil_append, List.cons_append, true_and, and_true, true_or, or_true, Nat.zero_add, dp_s, Nat.reduceAdd, le8_0, le8_1, le8_2, le8_3, le8_4, le8_5, le8_6, le8_7, le8_8, Classical.not_not, aT40, aT41, aT42, aT44, aT54, aT58, aT59, rT54, rT58, rT59, reduceIte, Nat.reduceEqDiff, qn_42, qn_44, true_implies, not_true_eq_false, not_false_eq_true, false_implies, ↓shO_of b1, lt_T, le_T, T_4, T_12, nT (show j < 2147483648 by omega), g1, g2, g3]
    have low : j < 4 ∨ 12 ≤ j → X (d + 2) 114 19 [some (.inr (some a)), some (.inl (nI j))] [] M k := by
      intro hj2
      refine vc_X 40 _ _ _ _ _ _ _ ?_
      simp only [↓v114_0, ↓v114_1, ↓v114_2, ↓v114_5, ↓v114_6, ↓v114_8, ↓v114_11, ↓v114_12, ↓v114_13, ↓v114_14, ↓v114_15, ↓v114_18, ↓v114_19, ↓v114_20, ↓v114_52, ↓v114_53, ↓v114_56, ↓v114_57, ↓v114_58, ↓v114_61, ↓v114_62, ↓v114_63, ↓v114_66, ↓v114_67, ↓v114_68, ↓v114_71, ↓v114_72, ↓v114_73, ↓v114_74, ↓v114_75, ↓v114_76, ↓v114_78, ↓v114_79, ↓v114_82, ↓qI_c, ↓qL_c, ↓qR_c, ↓pA_o, ↓qC_i, ↓qC_r, ↓oA_s, ↓gI_0, ↓gI_1, ↓gI_2, ↓gI_3, ↓gI_4, ↓gI_5, ↓gI_6, ↓gI_7, ↓gI_8, ↓gI_9, ↓gI_10, ↓gR_0, ↓gR_1, ↓gR_2, ↓gR_3, ↓gR_4, ↓gR_5, ↓gR_6, ↓gR_7, ↓gR_8, ↓gR_9, ↓gR_10, ↓sL_0, ↓sL_1, ↓sL_2, ↓sL_3, ↓sL_4, ↓sL_5, ↓sL_6, ↓sL_7, ↓sL_8, ↓sL_9, ↓sL_10, ↓rrf_si, ↓rrf_sg, ↓shO_si, ↓shO_sg, ↓shO_sr, ↓shA_si, ↓shA_sg, ↓shA_sr, ↓pAs_0, ↓pAs_i, ↓pAs_r, stk_n, stk_i, stk_l, stk_r, List.nil_append, List.cons_append, true_and, and_true, true_or, or_true, Nat.zero_add, dp_s, Nat.reduceAdd, le8_0, le8_1, le8_2, le8_3, le8_4, le8_5, le8_6, le8_7, le8_8, Classical.not_not, aT40, aT41, aT42, aT44, aT54, aT58, aT59, rT54, rT58, rT59, reduceIte, Nat.reduceEqDiff, qn_42, qn_44, true_implies, not_true_eq_false, not_false_eq_true, false_implies, ↓shO_of b1, nT (show j < 2147483648 by omega), g1, g2, g3]
      unfold tellR at hk
      refine ⟨fun c => ?_, fun c0 => ⟨fun c => ?_, fun c1 => ⟨fun c => ?_, fun c2 => ⟨fun c => ?_, fun c3 => ?_⟩⟩⟩⟩
      · rw [if_pos (by omega)] at hk; exact hk
      · rw [if_neg (by omega), if_pos (by omega)] at hk; exact hk
      · rw [if_neg (by omega), if_neg (by omega), if_pos (by omega)] at hk; exact hk
      · rw [if_neg (by omega), if_neg (by omega), if_neg (by omega), if_pos (by omega)] at hk
        refine k20 h ⟨_, rfl, ?_⟩
        refine vc_X 5 _ _ _ _ _ _ _ ?_
        simp only [↓v114_0, ↓v114_1, ↓v114_2, ↓v114_5, ↓v114_6, ↓v114_8, ↓v114_11, ↓v114_12, ↓v114_13, ↓v114_14, ↓v114_15, ↓v114_18, ↓v114_19, ↓v114_20, ↓v114_52, ↓v114_53, ↓v114_56, ↓v114_57, ↓v114_58, ↓v114_61, ↓v114_62, ↓v114_63, ↓v114_66, ↓v114_67, ↓v114_68, ↓v114_71, ↓v114_72, ↓v114_73, ↓v114_74, ↓v114_75, ↓v114_76, ↓v114_78, ↓v114_79, ↓v114_82, ↓qI_c, ↓qL_c, ↓qR_c, ↓pA_o, ↓qC_i, ↓qC_r, ↓oA_s, ↓gI_0, ↓gI_1, ↓gI_2, ↓gI_3, ↓gI_4, ↓gI_5, ↓gI_6, ↓gI_7, ↓gI_8, ↓gI_9, ↓gI_10, ↓gR_0, ↓gR_1, ↓gR_2, ↓gR_3, ↓gR_4, ↓gR_5, ↓gR_6, ↓gR_7, ↓gR_8, ↓gR_9, ↓gR_10, ↓sL_0, ↓sL_1, ↓sL_2, ↓sL_3, ↓sL_4, ↓sL_5, ↓sL_6, ↓sL_7, ↓sL_8, ↓sL_9, ↓sL_10, ↓rrf_si, ↓rrf_sg, ↓shO_si, ↓shO_sg, ↓shO_sr, ↓shA_si, ↓shA_sg, ↓shA_sr, ↓pAs_0, ↓pAs_i, ↓pAs_r, stk_n, stk_i, stk_l, stk_r, List.nil_append, List.cons_append, true_and, and_true, true_or, or_true, Nat.zero_add, dp_s, Nat.reduceAdd, le8_0, le8_1, le8_2, le8_3, le8_4, le8_5, le8_6, le8_7, le8_8, Classical.not_not, aT40, aT41, aT42, aT44, aT54, aT58, aT59, rT54, rT58, rT59, reduceIte, Nat.reduceEqDiff, qn_42, qn_44, true_implies, not_true_eq_false, not_false_eq_true, false_implies]
        exact hk
      · rw [if_neg (by omega), if_neg (by omega), if_neg (by omega), if_neg (by omega), if_neg (by omega)] at hk
        rw [n_4, n_8, pk_sub (by omega), pk_sub (by omega), show j - 4 - 8 = j - 12 by omega]
        refine k115 h (fun i hi2 hi => ⟨_, rfl, ?_⟩) (fun c => by rw [nT (by omega)] at c; omega)
        rw [nI_eq (by omega) (by omega)] at hi
        rw [hi] at hk
        refine vc_X 5 _ _ _ _ _ _ _ ?_
        simp only [↓v114_0, ↓v114_1, ↓v114_2, ↓v114_5, ↓v114_6, ↓v114_8, ↓v114_11, ↓v114_12, ↓v114_13, ↓v114_14, ↓v114_15, ↓v114_18, ↓v114_19, ↓v114_20, ↓v114_52, ↓v114_53, ↓v114_56, ↓v114_57, ↓v114_58, ↓v114_61, ↓v114_62, ↓v114_63, ↓v114_66, ↓v114_67, ↓v114_68, ↓v114_71, ↓v114_72, ↓v114_73, ↓v114_74, ↓v114_75, ↓v114_76, ↓v114_78, ↓v114_79, ↓v114_82, ↓qI_c, ↓qL_c, ↓qR_c, ↓pA_o, ↓qC_i, ↓qC_r, ↓oA_s, ↓gI_0, ↓gI_1, ↓gI_2, ↓gI_3, ↓gI_4, ↓gI_5, ↓gI_6, ↓gI_7, ↓gI_8, ↓gI_9, ↓gI_10, ↓gR_0, ↓gR_1, ↓gR_2, ↓gR_3, ↓gR_4, ↓gR_5, ↓gR_6, ↓gR_7, ↓gR_8, ↓gR_9, ↓gR_10, ↓sL_0, ↓sL_1, ↓sL_2, ↓sL_3, ↓sL_4, ↓sL_5, ↓sL_6, ↓sL_7, ↓sL_8, ↓sL_9, ↓sL_10, ↓rrf_si, ↓rrf_sg, ↓shO_si, ↓shO_sg, ↓shO_sr, ↓shA_si, ↓shA_sg, ↓shA_sr, ↓pAs_0, ↓pAs_i, ↓pAs_r, stk_n, stk_i, stk_l, stk_r, List.nil_append, List.cons_append, true_and, and_true, true_or, or_true, Nat.zero_add, dp_s, Nat.reduceAdd, le8_0, le8_1, le8_2, le8_3, le8_4, le8_5, le8_6, le8_7, le8_8, Classical.not_not, aT40, aT41, aT42, aT44, aT54, aT58, aT59, rT54, rT58, rT59, reduceIte, Nat.reduceEqDiff, qn_42, qn_44, true_implies, not_true_eq_false, not_false_eq_true, false_implies]
        exact hk
    refine ⟨fun c => low (by omega), fun c => ⟨fun c2 => low (by omega), fun c2 => ?_⟩⟩
    rw [n_4, pk_sub (by omega)]
    refine k18 h (by omega) ⟨_, rfl, ?_⟩
    unfold tellR at hk
    rw [if_neg (by omega), if_neg (by omega), if_neg (by omega), if_neg (by omega), if_pos (by omega)] at hk
    refine vc_X 5 _ _ _ _ _ _ _ ?_
    simp only [↓v114_0, ↓v114_1, ↓v114_2, ↓v114_5, ↓v114_6, ↓v114_8, ↓v114_11, ↓v114_12, ↓v114_13, ↓v114_14, ↓v114_15, ↓v114_18, ↓v114_19, ↓v114_20, ↓v114_52, ↓v114_53, ↓v114_56, ↓v114_57, ↓v114_58, ↓v114_61, ↓v114_62, ↓v114_63, ↓v114_66, ↓v114_67, ↓v114_68, ↓v114_71, ↓v114_72, ↓v114_73, ↓v114_74, ↓v114_75, ↓v114_76, ↓v114_78, ↓v114_79, ↓v114_82, ↓qI_c, ↓qL_c, ↓qR_c, ↓pA_o, ↓qC_i, ↓qC_r, ↓oA_s, ↓gI_0, ↓gI_1, ↓gI_2, ↓gI_3, ↓gI_4, ↓gI_5, ↓gI_6, ↓gI_7, ↓gI_8, ↓gI_9, ↓gI_10, ↓gR_0, ↓gR_1, ↓gR_2, ↓gR_3, ↓gR_4, ↓gR_5, ↓gR_6, ↓gR_7, ↓gR_8, ↓gR_9, ↓gR_10, ↓sL_0, ↓sL_1, ↓sL_2, ↓sL_3, ↓sL_4, ↓sL_5, ↓sL_6, ↓sL_7, ↓sL_8, ↓sL_9, ↓sL_10, ↓rrf_si, ↓rrf_sg, ↓shO_si, ↓shO_sg, ↓shO_sr, ↓shA_si, ↓shA_sg, ↓shA_sr, ↓pAs_0, ↓pAs_i, ↓pAs_r, stk_n, stk_i, stk_l, stk_r, List.nil_append, List.cons_append, true_and, and_true, true_or, or_true, Nat.zero_add, dp_s, Nat.reduceAdd, le8_0, le8_1, le8_2, le8_3, le8_4, le8_5, le8_6, le8_7, le8_8, Classical.not_not, aT40, aT41, aT42, aT44, aT54, aT58, aT59, rT54, rT58, rT59, reduceIte, Nat.reduceEqDiff, qn_42, qn_44, true_implies, not_true_eq_false, not_false_eq_true, false_implies]
    exact hk
  · have hk := h0 hx
    have hx2 : x.toInt < 0 ∨ 18 ≤ x.toInt := by
      unfold inB at hx
      omega
    have big : XC (d + 2) 115 [.inr (some a), .inl (x - 4 - 8)] M fun r M => ∃ y, r = some (.inl y) ∧ X (d + 2) 114 82 [some (.inr (some a)), some (.inl x)] [.inl y] M k := by
      refine k115 h (fun i hi2 hi => ?_) (fun c => ⟨_, rfl, ?_⟩)
      · exfalso
        have e1 : x = nI i + 8 + 4 := by rw [← hi, Int32.sub_add_cancel, Int32.sub_add_cancel]
        rw [n_8, n_4, nI_add, nI_add] at e1
        rw [e1, nT (by omega)] at hx2
        omega
      · refine vc_X 5 _ _ _ _ _ _ _ ?_
        simp only [↓v114_0, ↓v114_1, ↓v114_2, ↓v114_5, ↓v114_6, ↓v114_8, ↓v114_11, ↓v114_12, ↓v114_13, ↓v114_14, ↓v114_15, ↓v114_18, ↓v114_19, ↓v114_20, ↓v114_52, ↓v114_53, ↓v114_56, ↓v114_57, ↓v114_58, ↓v114_61, ↓v114_62, ↓v114_63, ↓v114_66, ↓v114_67, ↓v114_68, ↓v114_71, ↓v114_72, ↓v114_73, ↓v114_74, ↓v114_75, ↓v114_76, ↓v114_78, ↓v114_79, ↓v114_82, ↓qI_c, ↓qL_c, ↓qR_c, ↓pA_o, ↓qC_i, ↓qC_r, ↓oA_s, ↓gI_0, ↓gI_1, ↓gI_2, ↓gI_3, ↓gI_4, ↓gI_5, ↓gI_6, ↓gI_7, ↓gI_8, ↓gI_9, ↓gI_10, ↓gR_0, ↓gR_1, ↓gR_2, ↓gR_3, ↓gR_4, ↓gR_5, ↓gR_6, ↓gR_7, ↓gR_8, ↓gR_9, ↓gR_10, ↓sL_0, ↓sL_1, ↓sL_2, ↓sL_3, ↓sL_4, ↓sL_5, ↓sL_6, ↓sL_7, ↓sL_8, ↓sL_9, ↓sL_10, ↓rrf_si, ↓rrf_sg, ↓shO_si, ↓shO_sg, ↓shO_sr, ↓shA_si, ↓shA_sg, ↓shA_sr, ↓pAs_0, ↓pAs_i, ↓pAs_r, stk_n, stk_i, stk_l, stk_r, List.nil_append, List.cons_append, true_and, and_true, true_or, or_true, Nat.zero_add, dp_s, Nat.reduceAdd, le8_0, le8_1, le8_2, le8_3, le8_4, le8_5, le8_6, le8_7, le8_8, Classical.not_not, aT40, aT41, aT42, aT44, aT54, aT58, aT59, rT54, rT58, rT59, reduceIte, Nat.reduceEqDiff, qn_42, qn_44, true_implies, not_true_eq_false, not_false_eq_true, false_implies]
        exact hk
    refine vc_X 40 _ _ _ _ _ _ _ ?_
    simp only [↓v114_0, ↓v114_1, ↓v114_2, ↓v114_5, ↓v114_6, ↓v114_8, ↓v114_11, ↓v114_12, ↓v114_13, ↓v114_14, ↓v114_15, ↓v114_18, ↓v114_19, ↓v114_20, ↓v114_52, ↓v114_53, ↓v114_56, ↓v114_57, ↓v114_58, ↓v114_61, ↓v114_62, ↓v114_63, ↓v114_66, ↓v114_67, ↓v114_68, ↓v114_71, ↓v114_72, ↓v114_73, ↓v114_74, ↓v114_75, ↓v114_76, ↓v114_78, ↓v114_79, ↓v114_82, ↓qI_c, ↓qL_c, ↓qR_c, ↓pA_o, ↓qC_i, ↓qC_r, ↓oA_s, ↓gI_0, ↓gI_1, ↓gI_2, ↓gI_3, ↓gI_4, ↓gI_5, ↓gI_6, ↓gI_7, ↓gI_8, ↓gI_9, ↓gI_10, ↓gR_0, ↓gR_1, ↓gR_2, ↓gR_3, ↓gR_4, ↓gR_5, ↓gR_6, ↓gR_7, ↓gR_8, ↓gR_9, ↓gR_10, ↓sL_0, ↓sL_1, ↓sL_2, ↓sL_3, ↓sL_4, ↓sL_5, ↓sL_6, ↓sL_7, ↓sL_8, ↓sL_9, ↓sL_10, ↓rrf_si, ↓rrf_sg, ↓shO_si, ↓shO_sg, ↓shO_sr, ↓shA_si, ↓shA_sg, ↓shA_sr, ↓pAs_0, ↓pAs_i, ↓pAs_r, stk_n, stk_i, stk_l, stk_r, List.nil_append, List.cons_append, true_and, and_true, true_or, or_true, Nat.zero_add, dp_s, Nat.reduceAdd, le8_0, le8_1, le8_2, le8_3, le8_4, le8_5, le8_6, le8_7, le8_8, Classical.not_not, aT40, aT41, aT42, aT44, aT54, aT58, aT59, rT54, rT58, rT59, reduceIte, Nat.reduceEqDiff, qn_42, qn_44, true_implies, not_true_eq_false, not_false_eq_true, false_implies, ↓shO_of b1, lt_T, le_T, T_4, T_12, g1, g2, g3]
    have low : X (d + 2) 114 19 [some (.inr (some a)), some (.inl x)] [] M k := by
      refine vc_X 40 _ _ _ _ _ _ _ ?_
      simp only [↓v114_0, ↓v114_1, ↓v114_2, ↓v114_5, ↓v114_6, ↓v114_8, ↓v114_11, ↓v114_12, ↓v114_13, ↓v114_14, ↓v114_15, ↓v114_18, ↓v114_19, ↓v114_20, ↓v114_52, ↓v114_53, ↓v114_56, ↓v114_57, ↓v114_58, ↓v114_61, ↓v114_62, ↓v114_63, ↓v114_66, ↓v114_67, ↓v114_68, ↓v114_71, ↓v114_72, ↓v114_73, ↓v114_74, ↓v114_75, ↓v114_76, ↓v114_78, ↓v114_79, ↓v114_82, ↓qI_c, ↓qL_c, ↓qR_c, ↓pA_o, ↓qC_i, ↓qC_r, ↓oA_s, ↓gI_0, ↓gI_1, ↓gI_2, ↓gI_3, ↓gI_4, ↓gI_5, ↓gI_6, ↓gI_7, ↓gI_8, ↓gI_9, ↓gI_10, ↓gR_0, ↓gR_1, ↓gR_2, ↓gR_3, ↓gR_4, ↓gR_5, ↓gR_6, ↓gR_7, ↓gR_8, ↓gR_9, ↓gR_10, ↓sL_0, ↓sL_1, ↓sL_2, ↓sL_3, ↓sL_4, ↓sL_5, ↓sL_6, ↓sL_7, ↓sL_8, ↓sL_9, ↓sL_10, ↓rrf_si, ↓rrf_sg, ↓shO_si, ↓shO_sg, ↓shO_sr, ↓shA_si, ↓shA_sg, ↓shA_sr, ↓pAs_0, ↓pAs_i, ↓pAs_r, stk_n, stk_i, stk_l, stk_r, List.nil_append, List.cons_append, true_and, and_true, true_or, or_true, Nat.zero_add, dp_s, Nat.reduceAdd, le8_0, le8_1, le8_2, le8_3, le8_4, le8_5, le8_6, le8_7, le8_8, Classical.not_not, aT40, aT41, aT42, aT44, aT54, aT58, aT59, rT54, rT58, rT59, reduceIte, Nat.reduceEqDiff, qn_42, qn_44, true_implies, not_true_eq_false, not_false_eq_true, false_implies, ↓shO_of b1, g1, g2, g3]
      exact ⟨fun c => by omega, fun _ => ⟨fun c => by omega, fun _ => ⟨fun c => by omega, fun _ => ⟨fun c => by omega, fun _ => big⟩⟩⟩⟩
    exact ⟨fun c => low, fun c => ⟨fun c2 => low, fun c2 => by omega⟩⟩
/-! Disk: at a; its cells at a + 1, its slots at a + 2. dk: the bytes; r0, r1: what is in the slots -/
def Di (M : Mm) (a : Nat) : Prop := M.sh a = some (3, 0) ∧ M.rf a 0 = some (a + 1) ∧ M.rf a 1 = some (a + 2) ∧ M.sh (a + 1) = some (41, 2048) ∧ M.sh (a + 2) = some (58, 2)
def DkC (M : Mm) (a : Nat) (dk : Nat → Nat) : Prop := Di M a ∧ ∀ j, j < 2048 → M.it (a + 1) j = nI (dk j) ∧ dk j < 256
def SlC (M : Mm) (a : Nat) (q0 : Nat) (r0 : RecT) (q1 : Option (Nat × RecT)) : Prop := Di M a ∧ M.rf (a + 2) 0 = some q0 ∧ ReC M q0 r0 ∧ M.rf (a + 2) 1 = q1.map Prod.fst ∧ ∀ z, q1 = some z → ReC M z.1 z.2
theorem Di.keep {M M' : Mm} {A : List Nat} {a : Nat} (h : Di M a) (o : On A M M') : Di M' a := by
  obtain ⟨h1, h2, h3, h4, h5⟩ := h
  exact ⟨by rw [o.1]; exact h1, by rw [o.2.2.2.2.1]; exact h2, by rw [o.2.2.2.2.1]; exact h3, by rw [o.1]; exact h4, by rw [o.1]; exact h5⟩
theorem k28 {d : Nat} {M : Mm} {k : mQ} {a : Nat} {x y : Int32} {dk : Nat → Nat} (h : DkC M a dk) (h1 : ∀ b j, b < 128 → j < 16 → x = nI b → y = nI j → k (some (.inl (nI (dk (16 * b + j))))) M) (h0 : ¬ (inB x 128 ∧ inB y 16) → k (some (.inl (-1))) M) : XC (d + 1) 28 [.inr (some a), .inl x, .inl y] M k := by
  obtain ⟨⟨b1, b2, b3, b4, b5⟩, g1⟩ := h
  refine xc ?_
  show X d 28 0 [some (.inr (some a)), some (.inl x), some (.inl y)] [] M k
  by_cases hxy : inB x 128 ∧ inB y 16
  · obtain ⟨b, hb, rfl⟩ := inB_of hxy.1 (by omega)
    obtain ⟨j, hj, rfl⟩ := inB_of hxy.2 (by omega)
    refine vc_X 40 _ _ _ _ _ _ _ ?_
    simp only [↓v28_0, ↓v28_1, ↓v28_4, ↓v28_5, ↓v28_8, ↓v28_11, ↓v28_12, ↓v28_15, ↓v28_16, ↓v28_18, ↓v28_21, ↓v28_22, ↓v28_23, ↓v28_24, ↓v28_27, ↓v28_28, ↓v28_30, ↓v28_31, ↓v28_32, ↓v28_33, ↓v28_34, ↓qI_c, ↓qL_c, ↓qR_c, ↓pA_o, ↓qC_i, ↓qC_r, ↓oA_s, ↓gI_0, ↓gI_1, ↓gI_2, ↓gI_3, ↓gI_4, ↓gI_5, ↓gI_6, ↓gI_7, ↓gI_8, ↓gI_9, ↓gI_10, ↓gR_0, ↓gR_1, ↓gR_2, ↓gR_3, ↓gR_4, ↓gR_5, ↓gR_6, ↓gR_7, ↓gR_8, ↓gR_9, ↓gR_10, ↓sL_0, ↓sL_1, ↓sL_2, ↓sL_3, ↓sL_4, ↓sL_5, ↓sL_6, ↓sL_7, ↓sL_8, ↓sL_9, ↓sL_10, ↓rrf_si, ↓rrf_sg, ↓shO_si, ↓shO_sg, ↓shO_sr, ↓shA_si, ↓shA_sg, ↓shA_sr, ↓pAs_0, ↓pAs_i, ↓pAs_r, stk_n, stk_i, stk_l, stk_r, List.nil_append, List.cons_append, true_and, and_true, true_or, or_true, Nat.zero_add, dp_s, Nat.reduceAdd, le8_0, le8_1, le8_2, le8_3, le8_4, le8_5, le8_6, le8_7, le8_8, Classical.not_not, aT40, aT41, aT42, aT44, aT54, aT58, aT59, rT54, rT58, rT59, reduceIte, Nat.reduceEqDiff, qn_42, qn_44, true_implies, not_true_eq_false, not_false_eq_true, false_implies, ↓shO_of b1, ↓rrf_of b2, ↓shA_of b4, lt_T, le_T, T_0, T_128, T_16, nT (show b < 2147483648 by omega), nT (show j < 2147483648 by omega)]
    rw [n_16, pk_mul, nI_add, nC (by omega), (g1 (b * 16 + j) (by omega)).1, show b * 16 + j = 16 * b + j by omega]
    exact ⟨fun c => by omega, fun _ => ⟨fun c => by omega, fun _ => ⟨fun c => by omega, fun _ => ⟨fun _ => ⟨inB_n (by omega) (by omega), h1 b j hb hj rfl rfl⟩, fun c => by omega⟩⟩⟩⟩
  · have hk := h0 hxy
    refine vc_X 40 _ _ _ _ _ _ _ ?_
    simp only [↓v28_0, ↓v28_1, ↓v28_4, ↓v28_5, ↓v28_8, ↓v28_11, ↓v28_12, ↓v28_15, ↓v28_16, ↓v28_18, ↓v28_21, ↓v28_22, ↓v28_23, ↓v28_24, ↓v28_27, ↓v28_28, ↓v28_30, ↓v28_31, ↓v28_32, ↓v28_33, ↓v28_34, ↓qI_c, ↓qL_c, ↓qR_c, ↓pA_o, ↓qC_i, ↓qC_r, ↓oA_s, ↓gI_0, ↓gI_1, ↓gI_2, ↓gI_3, ↓gI_4, ↓gI_5, ↓gI_6, ↓gI_7, ↓gI_8, ↓gI_9, ↓gI_10, ↓gR_0, ↓gR_1, ↓gR_2, ↓gR_3, ↓gR_4, ↓gR_5, ↓gR_6, ↓gR_7, ↓gR_8, ↓gR_9, ↓gR_10, ↓sL_0, ↓sL_1, ↓sL_2, ↓sL_3, ↓sL_4, ↓sL_5, ↓sL_6, ↓sL_7, ↓sL_8, ↓sL_9, ↓sL_10, ↓rrf_si, ↓rrf_sg, ↓shO_si, ↓shO_sg, ↓shO_sr, ↓shA_si, ↓shA_sg, ↓shA_sr, ↓pAs_0, ↓pAs_i, ↓pAs_r, stk_n, stk_i, stk_l, stk_r, List.nil_append, List.cons_append, true_and, and_true, true_or, or_true, Nat.zero_add, dp_s, Nat.reduceAdd, le8_0, le8_1, le8_2, le8_3, le8_4, le8_5, le8_6, le8_7, le8_8, Classical.not_not, aT40, aT41, aT42, aT44, aT54, aT58, aT59, rT54, rT58, rT59, reduceIte, Nat.reduceEqDiff, qn_42, qn_44, true_implies, not_true_eq_false, not_false_eq_true, false_implies, ↓shO_of b1, ↓rrf_of b2, ↓shA_of b4, lt_T, le_T, T_0, T_128, T_16]
    exact ⟨fun _ => hk, fun c1 => ⟨fun _ => hk, fun c2 => ⟨fun _ => hk, fun c3 => ⟨fun c4 => absurd ⟨⟨by omega, by omega⟩, by omega, by omega⟩ hxy, fun _ => hk⟩⟩⟩⟩
theorem sn (a : Nat) : (some a = (none : Option Nat)) = False := eq_false (by simp)
/-- which slot has the latest record -/
def latS (r0 : RecT) (q1 : Option (Nat × RecT)) : Bool := match q1 with
  | none => false
  | some z => decide (r0.1 ≤ z.2.1)
theorem k16 {d : Nat} {M : Mm} {k : mQ} {a q0 : Nat} {r0 : RecT} {q1 : Option (Nat × RecT)} (h : SlC M a q0 r0 q1) (h0 : latS r0 q1 = false → k (some (.inr (.inr (some q0)))) M) (h1 : ∀ z, q1 = some z → latS r0 q1 = true → k (some (.inr (.inr (some z.1)))) M) : XC (d + 1) 16 [.inr (some a)] M k := by
  obtain ⟨⟨b1, b2, b3, b4, b5⟩, g1, g2, g3, g4⟩ := h
  refine xc ?_
  show X d 16 0 [some (.inr (some a))] [] M k
  have t0 : (0 : Int32).toNatClampNeg = 0 := rfl
  have t1 : (1 : Int32).toNatClampNeg = 1 := rfl
  have g1' : M.rf (a + 2) (0 : Int32).toNatClampNeg = some q0 := g1
  have i0 : inB 0 2 := inB_n (j := 0) (by omega) (by omega)
  have i1 : inB 1 2 := inB_n (j := 1) (by omega) (by omega)
  cases q1 with
  | none =>
    have g3' : M.rf (a + 2) (1 : Int32).toNatClampNeg = none := g3
    refine vc_X 60 _ _ _ _ _ _ _ ?_
    simp only [↓v16_0, ↓v16_1, ↓v16_4, ↓v16_5, ↓v16_6, ↓v16_9, ↓v16_10, ↓v16_13, ↓v16_14, ↓v16_15, ↓v16_18, ↓v16_19, ↓v16_22, ↓v16_23, ↓v16_24, ↓v16_27, ↓v16_30, ↓v16_31, ↓v16_34, ↓v16_35, ↓v16_36, ↓v16_37, ↓v16_38, ↓v16_41, ↓v16_42, ↓v16_43, ↓qI_c, ↓qL_c, ↓qR_c, ↓pA_o, ↓qC_i, ↓qC_r, ↓oA_s, ↓gI_0, ↓gI_1, ↓gI_2, ↓gI_3, ↓gI_4, ↓gI_5, ↓gI_6, ↓gI_7, ↓gI_8, ↓gI_9, ↓gI_10, ↓gR_0, ↓gR_1, ↓gR_2, ↓gR_3, ↓gR_4, ↓gR_5, ↓gR_6, ↓gR_7, ↓gR_8, ↓gR_9, ↓gR_10, ↓sL_0, ↓sL_1, ↓sL_2, ↓sL_3, ↓sL_4, ↓sL_5, ↓sL_6, ↓sL_7, ↓sL_8, ↓sL_9, ↓sL_10, ↓rrf_si, ↓rrf_sg, ↓shO_si, ↓shO_sg, ↓shO_sr, ↓shA_si, ↓shA_sg, ↓shA_sr, ↓pAs_0, ↓pAs_i, ↓pAs_r, stk_n, stk_i, stk_l, stk_r, List.nil_append, List.cons_append, true_and, and_true, true_or, or_true, Nat.zero_add, dp_s, Nat.reduceAdd, le8_0, le8_1, le8_2, le8_3, le8_4, le8_5, le8_6, le8_7, le8_8, Classical.not_not, aT40, aT41, aT42, aT44, aT54, aT58, aT59, rT54, rT58, rT59, reduceIte, Nat.reduceEqDiff, qn_42, qn_44, true_implies, not_true_eq_false, not_false_eq_true, false_implies, ↓shO_of b1, ↓rrf_of b3, ↓shA_of b5, ↓rrf_of g1', ↓rrf_of g3']
    exact ⟨i1, i0, h0 rfl⟩
  | some z =>
    obtain ⟨za, zr⟩ := z
    have g3' : M.rf (a + 2) (1 : Int32).toNatClampNeg = some za := g3
    have hz := g4 (za, zr) rfl
    have n0 := g2.2.2.2.2.2.2.2.1
    have n1 : zr.1 < 100000 := hz.2.2.2.2.2.2.2.1
    refine vc_X 60 _ _ _ _ _ _ _ ?_
    simp only [↓v16_0, ↓v16_1, ↓v16_4, ↓v16_5, ↓v16_6, ↓v16_9, ↓v16_10, ↓v16_13, ↓v16_14, ↓v16_15, ↓v16_18, ↓v16_19, ↓v16_22, ↓v16_23, ↓v16_24, ↓v16_27, ↓v16_30, ↓v16_31, ↓v16_34, ↓v16_35, ↓v16_36, ↓v16_37, ↓v16_38, ↓v16_41, ↓v16_42, ↓v16_43, ↓qI_c, ↓qL_c, ↓qR_c, ↓pA_o, ↓qC_i, ↓qC_r, ↓oA_s, ↓gI_0, ↓gI_1, ↓gI_2, ↓gI_3, ↓gI_4, ↓gI_5, ↓gI_6, ↓gI_7, ↓gI_8, ↓gI_9, ↓gI_10, ↓gR_0, ↓gR_1, ↓gR_2, ↓gR_3, ↓gR_4, ↓gR_5, ↓gR_6, ↓gR_7, ↓gR_8, ↓gR_9, ↓gR_10, ↓sL_0, ↓sL_1, ↓sL_2, ↓sL_3, ↓sL_4, ↓sL_5, ↓sL_6, ↓sL_7, ↓sL_8, ↓sL_9, ↓sL_10, ↓rrf_si, ↓rrf_sg, ↓shO_si, ↓shO_sg, ↓shO_sr, ↓shA_si, ↓shA_sg, ↓shA_sr, ↓pAs_0, ↓pAs_i, ↓pAs_r, stk_n, stk_i, stk_l, stk_r, List.nil_append, List.cons_append, true_and, and_true, true_or, or_true, Nat.zero_add, dp_s, Nat.reduceAdd, le8_0, le8_1, le8_2, le8_3, le8_4, le8_5, le8_6, le8_7, le8_8, Classical.not_not, aT40, aT41, aT42, aT44, aT54, aT58, aT59, rT54, rT58, rT59, reduceIte, Nat.reduceEqDiff, qn_42, qn_44, true_implies, not_true_eq_false, not_false_eq_true, false_implies, ↓shO_of b1, ↓rrf_of b3, ↓shA_of b5, ↓rrf_of g1', ↓rrf_of g3', ↓shO_of g2.1.1, ↓shO_of hz.1.1, g2.2.1, hz.2.1, le_T, nT (show r0.1 < 2147483648 by omega), nT (show zr.1 < 2147483648 by omega), sn]
    refine ⟨i1, i0, i1, fun c => ⟨i1, h1 _ rfl ?_⟩, fun c => ⟨i0, h0 ?_⟩⟩
    · simp only [latS, decide_eq_true_eq]; omega
    · simp only [latS, decide_eq_false_iff_not]; omega
theorem k113 {d : Nat} {M : Mm} {k : mQ} {a q0 : Nat} {x : Int32} {r0 : RecT} {q1 : Option (Nat × RecT)} (h : SlC M a q0 r0 q1) (h0 : x = 0 → k (some (.inr (.inr (some q0)))) M) (h1 : x = 1 → k (some (.inr (.inr (q1.map Prod.fst)))) M) (h2 : ¬ inB x 2 → k (some (.inr (.inr none))) M) : XC (d + 1) 113 [.inr (some a), .inl x] M k := by
  obtain ⟨⟨b1, b2, b3, b4, b5⟩, g1, g2, g3, g4⟩ := h
  refine xc ?_
  show X d 113 0 [some (.inr (some a)), some (.inl x)] [] M k
  by_cases hx : inB x 2
  · obtain ⟨j, hj, rfl⟩ := inB_of hx (by omega)
    rcases (show j = 0 ∨ j = 1 by omega) with rfl | rfl
    · have g1' : M.rf (a + 2) (nI 0).toNatClampNeg = some q0 := g1
      refine vc_X 60 _ _ _ _ _ _ _ ?_
      simp only [↓v113_0, ↓v113_1, ↓v113_4, ↓v113_5, ↓v113_6, ↓v113_9, ↓v113_10, ↓v113_13, ↓v113_14, ↓v113_15, ↓v113_18, ↓v113_19, ↓qI_c, ↓qL_c, ↓qR_c, ↓pA_o, ↓qC_i, ↓qC_r, ↓oA_s, ↓gI_0, ↓gI_1, ↓gI_2, ↓gI_3, ↓gI_4, ↓gI_5, ↓gI_6, ↓gI_7, ↓gI_8, ↓gI_9, ↓gI_10, ↓gR_0, ↓gR_1, ↓gR_2, ↓gR_3, ↓gR_4, ↓gR_5, ↓gR_6, ↓gR_7, ↓gR_8, ↓gR_9, ↓gR_10, ↓sL_0, ↓sL_1, ↓sL_2, ↓sL_3, ↓sL_4, ↓sL_5, ↓sL_6, ↓sL_7, ↓sL_8, ↓sL_9, ↓sL_10, ↓rrf_si, ↓rrf_sg, ↓shO_si, ↓shO_sg, ↓shO_sr, ↓shA_si, ↓shA_sg, ↓shA_sr, ↓pAs_0, ↓pAs_i, ↓pAs_r, stk_n, stk_i, stk_l, stk_r, List.nil_append, List.cons_append, true_and, and_true, true_or, or_true, Nat.zero_add, dp_s, Nat.reduceAdd, le8_0, le8_1, le8_2, le8_3, le8_4, le8_5, le8_6, le8_7, le8_8, Classical.not_not, aT40, aT41, aT42, aT44, aT54, aT58, aT59, rT54, rT58, rT59, reduceIte, Nat.reduceEqDiff, qn_42, qn_44, true_implies, not_true_eq_false, not_false_eq_true, false_implies, ↓shO_of b1, ↓rrf_of b3, ↓shA_of b5, ↓rrf_of g1', lt_T, le_T, T_0, T_2, nT (show 0 < 2147483648 by omega)]
      exact ⟨fun c => by omega, fun _ => ⟨fun c => by omega, fun _ => ⟨hx, h0 rfl⟩⟩⟩
    · have g1' : M.rf (a + 2) (nI 1).toNatClampNeg = q1.map Prod.fst := g3
      refine vc_X 60 _ _ _ _ _ _ _ ?_
      simp only [↓v113_0, ↓v113_1, ↓v113_4, ↓v113_5, ↓v113_6, ↓v113_9, ↓v113_10, ↓v113_13, ↓v113_14, ↓v113_15, ↓v113_18, ↓v113_19, ↓qI_c, ↓qL_c, ↓qR_c, ↓pA_o, ↓qC_i, ↓qC_r, ↓oA_s, ↓gI_0, ↓gI_1, ↓gI_2, ↓gI_3, ↓gI_4, ↓gI_5, ↓gI_6, ↓gI_7, ↓gI_8, ↓gI_9, ↓gI_10, ↓gR_0, ↓gR_1, ↓gR_2, ↓gR_3, ↓gR_4, ↓gR_5, ↓gR_6, ↓gR_7, ↓gR_8, ↓gR_9, ↓gR_10, ↓sL_0, ↓sL_1, ↓sL_2, ↓sL_3, ↓sL_4, ↓sL_5, ↓sL_6, ↓sL_7, ↓sL_8, ↓sL_9, ↓sL_10, ↓rrf_si, ↓rrf_sg, ↓shO_si, ↓shO_sg, ↓shO_sr, ↓shA_si, ↓shA_sg, ↓shA_sr, ↓pAs_0, ↓pAs_i, ↓pAs_r, stk_n, stk_i, stk_l, stk_r, List.nil_append, List.cons_append, true_and, and_true, true_or, or_true, Nat.zero_add, dp_s, Nat.reduceAdd, le8_0, le8_1, le8_2, le8_3, le8_4, le8_5, le8_6, le8_7, le8_8, Classical.not_not, aT40, aT41, aT42, aT44, aT54, aT58, aT59, rT54, rT58, rT59, reduceIte, Nat.reduceEqDiff, qn_42, qn_44, true_implies, not_true_eq_false, not_false_eq_true, false_implies, ↓shO_of b1, ↓rrf_of b3, ↓shA_of b5, ↓rrf_of g1', lt_T, le_T, T_0, T_2, nT (show 1 < 2147483648 by omega)]
      exact ⟨fun c => by omega, fun _ => ⟨fun c => by omega, fun _ => ⟨hx, h1 rfl⟩⟩⟩
  · have hk := h2 hx
    refine vc_X 60 _ _ _ _ _ _ _ ?_
    simp only [↓v113_0, ↓v113_1, ↓v113_4, ↓v113_5, ↓v113_6, ↓v113_9, ↓v113_10, ↓v113_13, ↓v113_14, ↓v113_15, ↓v113_18, ↓v113_19, ↓qI_c, ↓qL_c, ↓qR_c, ↓pA_o, ↓qC_i, ↓qC_r, ↓oA_s, ↓gI_0, ↓gI_1, ↓gI_2, ↓gI_3, ↓gI_4, ↓gI_5, ↓gI_6, ↓gI_7, ↓gI_8, ↓gI_9, ↓gI_10, ↓gR_0, ↓gR_1, ↓gR_2, ↓gR_3, ↓gR_4, ↓gR_5, ↓gR_6, ↓gR_7, ↓gR_8, ↓gR_9, ↓gR_10, ↓sL_0, ↓sL_1, ↓sL_2, ↓sL_3, ↓sL_4, ↓sL_5, ↓sL_6, ↓sL_7, ↓sL_8, ↓sL_9, ↓sL_10, ↓rrf_si, ↓rrf_sg, ↓shO_si, ↓shO_sg, ↓shO_sr, ↓shA_si, ↓shA_sg, ↓shA_sr, ↓pAs_0, ↓pAs_i, ↓pAs_r, stk_n, stk_i, stk_l, stk_r, List.nil_append, List.cons_append, true_and, and_true, true_or, or_true, Nat.zero_add, dp_s, Nat.reduceAdd, le8_0, le8_1, le8_2, le8_3, le8_4, le8_5, le8_6, le8_7, le8_8, Classical.not_not, aT40, aT41, aT42, aT44, aT54, aT58, aT59, rT54, rT58, rT59, reduceIte, Nat.reduceEqDiff, qn_42, qn_44, true_implies, not_true_eq_false, not_false_eq_true, false_implies, ↓shO_of b1, ↓rrf_of b3, ↓shA_of b5, lt_T, le_T, T_0, T_2]
    exact ⟨fun _ => hk, fun c1 => ⟨fun _ => hk, fun c2 => absurd ⟨by omega, by omega⟩ hx⟩⟩
