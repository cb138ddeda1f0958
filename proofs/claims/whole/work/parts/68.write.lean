/-! Write. Of: only cells with P may differ -/
def Of (P : Nat → Prop) (M M' : Mm) : Prop := M'.sh = M.sh ∧ M'.sz = M.sz ∧ M'.sl = M.sl ∧ ∀ x, ¬ P x → ∀ j, M'.it x j = M.it x j ∧ M'.lg x j = M.lg x j ∧ M'.rf x j = M.rf x j
theorem Of.rf_ {P : Nat → Prop} {M : Mm} : Of P M M := ⟨rfl, rfl, rfl, fun _ _ _ => ⟨rfl, rfl, rfl⟩⟩
theorem On.of {A : List Nat} {P : Nat → Prop} {M M' : Mm} (h : On A M M') (hA : ∀ x ∈ A, P x) : Of P M M' := by
  obtain ⟨h1, h2, h3, h4, h5, h6⟩ := h
  exact ⟨h1, h2, h3, fun x hx j => ⟨h6 x (fun q => hx (hA x q)) j, by rw [h4], by rw [h5]⟩⟩
theorem Of.i {P : Nat → Prop} {M M' : Mm} {a k : Nat} {x : Int32} (h : Of P M M') (ha : P a) : Of P M (M'.si a k x) := by
  obtain ⟨h1, h2, h3, h4⟩ := h
  refine ⟨h1, h2, h3, fun y hy j => ⟨?_, (h4 y hy j).2.1, (h4 y hy j).2.2⟩⟩
  rw [si_it, if_neg (fun q => hy (by rw [q.1]; exact ha))]
  exact (h4 y hy j).1
theorem Of.l {P : Nat → Prop} {M M' : Mm} {a k : Nat} {x : Int64} (h : Of P M M') (ha : P a) : Of P M (M'.sg a k x) := by
  obtain ⟨h1, h2, h3, h4⟩ := h
  refine ⟨h1, h2, h3, fun y hy j => ⟨(h4 y hy j).1, ?_, (h4 y hy j).2.2⟩⟩
  rw [sg_lg, if_neg (fun q => hy (by rw [q.1]; exact ha))]
  exact (h4 y hy j).2.1
theorem Of.r {P : Nat → Prop} {M M' : Mm} {a k : Nat} {x : Option Nat} (h : Of P M M') (ha : P a) : Of P M (M'.sr a k x) := by
  obtain ⟨h1, h2, h3, h4⟩ := h
  refine ⟨h1, h2, h3, fun y hy j => ⟨(h4 y hy j).1, (h4 y hy j).2.1, ?_⟩⟩
  rw [sr_rf, if_neg (fun q => hy (by rw [q.1]; exact ha))]
  exact (h4 y hy j).2.2
theorem Of.trans {P R : Nat → Prop} {M M' M2 : Mm} (h : Of P M M') (g : Of R M' M2) (hR : ∀ x, R x → P x) : Of P M M2 := by
  obtain ⟨h1, h2, h3, h4⟩ := h
  obtain ⟨g1, g2, g3, g4⟩ := g
  exact ⟨g1.trans h1, g2.trans h2, g3.trans h3, fun x hx j => ⟨(g4 x (fun q => hx (hR x q)) j).1.trans (h4 x hx j).1, (g4 x (fun q => hx (hR x q)) j).2.1.trans (h4 x hx j).2.1, (g4 x (fun q => hx (hR x q)) j).2.2.trans (h4 x hx j).2.2⟩⟩
theorem Of.mono {P R : Nat → Prop} {M M' : Mm} (h : Of R M M') (hR : ∀ x, R x → P x) : Of P M M' := Of.trans Of.rf_ h hR
/-! bits -/
theorem shb : ∀ s, s < 64 → ((1 : Int64) <<< ((nI s).toInt64 &&& 63)).toBitVec = BitVec.twoPow 64 s := by decide +kernel
theorem or_b (x : Int64) {s j : Nat} (hs : s < 64) : (x ||| ((1 : Int64) <<< ((nI s).toInt64 &&& 63))).toBitVec.getLsbD j = (x.toBitVec.getLsbD j || decide (j = s)) := by
  rw [Int64.toBitVec_or, shb s hs, BitVec.getLsbD_or, BitVec.getLsbD_twoPow]
  by_cases h : j = s
  · simp [h, hs]
  · simp [h, Ne.symm h]
theorem an_b (x : Int64) {s j : Nat} (hs : s < 64) : (x &&& (((1 : Int64) <<< ((nI s).toInt64 &&& 63)) ^^^ (-1))).toBitVec.getLsbD j = (x.toBitVec.getLsbD j && !decide (j = s)) := by
  rw [Int64.toBitVec_and, Int64.toBitVec_xor, shb s hs, BitVec.getLsbD_and, BitVec.getLsbD_xor, BitVec.getLsbD_twoPow, show (-1 : Int64).toBitVec = BitVec.allOnes 64 from rfl, BitVec.getLsbD_allOnes]
  by_cases hj : j < 64
  · by_cases h : j = s
    · simp [h, hs]
    · simp [h, Ne.symm h, hj]
  · rw [BitVec.getLsbD_of_ge _ _ (by omega)]
    simp
/-- bit s of the two words -/
def bitOf (lo hi : Int64) (s : Nat) : Bool := if s < 64 then lo.toBitVec.getLsbD s else hi.toBitVec.getLsbD (s - 64)
/-- seat, number, target, record, bytes, for which seats it waits -/
abbrev WT : Type := Nat × Nat × Nat × Option Nat × (Nat → Int32) × (Nat → Bool)
def Wr (M : Mm) (w s : Nat) : Prop := M.sh w = some (9, 0) ∧ M.rf w 1 = some (w + 1) ∧ M.sh (w + 1) = some (41, 16) ∧ M.it w 0 = nI s ∧ s < 120
def WrC (M : Mm) (w : Nat) (x : WT) : Prop := Wr M w x.1 ∧ M.it w 2 = nI x.2.1 ∧ M.it w 3 = nI x.2.2.1 ∧ M.rf w 4 = x.2.2.2.1 ∧ (∀ j, j < 16 → M.it (w + 1) j = x.2.2.2.2.1 j) ∧ (∀ s, s < 128 → bitOf (M.lg w 5) (M.lg w 6) s = x.2.2.2.2.2 s) ∧ x.2.1 < 1000000 ∧ x.2.2.1 < 130
theorem Wr.kf {M M' : Mm} {P : Nat → Prop} {w s : Nat} (h : Wr M w s) (o : Of P M M') (h0 : ¬ P w) : Wr M' w s := by
  obtain ⟨b1, b2, b3, b4, b5⟩ := h
  exact ⟨by rw [o.1]; exact b1, by rw [(o.2.2.2 w h0 1).2.2]; exact b2, by rw [o.1]; exact b3, by rw [(o.2.2.2 w h0 0).1]; exact b4, b5⟩
theorem WrC.kf {M M' : Mm} {P : Nat → Prop} {w : Nat} {x : WT} (h : WrC M w x) (o : Of P M M') (h0 : ¬ P w) (h1 : ¬ P (w + 1)) : WrC M' w x := by
  obtain ⟨g1, g2, g3, g4, g5, g6, g7⟩ := h
  exact ⟨g1.kf o h0, by rw [(o.2.2.2 w h0 2).1]; exact g2, by rw [(o.2.2.2 w h0 3).1]; exact g3, by rw [(o.2.2.2 w h0 4).2.2]; exact g4, fun j hj => by rw [(o.2.2.2 _ h1 j).1]; exact g5 j hj, fun s hs => by rw [(o.2.2.2 w h0 5).2.1, (o.2.2.2 w h0 6).2.1]; exact g6 s hs, g7⟩
theorem k27 {d : Nat} {M : Mm} {k : mQ} {w : Nat} {i : Int32} {x : WT} (h : WrC M w x) (h1 : ∀ j, j < 16 → i = nI j → k (some (.inl (x.2.2.2.2.1 j))) M) (h0 : ¬ inB i 16 → k (some (.inl (-1))) M) : XC (d + 1) 27 [.inr (some w), .inl i] M k := by
  obtain ⟨⟨b1, b2, b3, b4, b5⟩, g1, g2, g3, g4, g5⟩ := h
  refine xc ?_
  show X d 27 0 [some (.inr (some w)), some (.inl i)] [] M k
  by_cases hi : inB i 16
  · obtain ⟨j, hj, rfl⟩ := inB_of hi (by omega)
    refine vc_X 30 _ _ _ _ _ _ _ ?_
    simp only [↓v27_0, ↓v27_1, ↓v27_4, ↓v27_5, ↓v27_7, ↓v27_10, ↓v27_11, ↓v27_14, ↓v27_15, ↓v27_16, ↓v27_19, ↓v27_20, ↓qI_c, ↓qL_c, ↓qR_c, ↓pA_o, ↓qC_i, ↓qC_r, ↓oA_s, ↓gI_0, ↓gI_1, ↓gI_2, ↓gI_3, ↓gI_4, ↓gI_5, ↓gI_6, ↓gI_7, ↓gI_8, ↓gI_9, ↓gI_10, ↓gR_0, ↓gR_1, ↓gR_2, ↓gR_3, ↓gR_4, ↓gR_5, ↓gR_6, ↓gR_7, ↓gR_8, ↓gR_9, ↓gR_10, ↓sL_0, ↓sL_1, ↓sL_2, ↓sL_3, ↓sL_4, ↓sL_5, ↓sL_6, ↓sL_7, ↓sL_8, ↓sL_9, ↓sL_10, ↓rrf_si, ↓rrf_sg, ↓shO_si, ↓shO_sg, ↓shO_sr, ↓shA_si, ↓shA_sg, ↓shA_sr, ↓pAs_0, ↓pAs_i, ↓pAs_r, stk_n, stk_i, stk_l, stk_r, List.nil_append, List.cons_append, true_and, and_true, true_or, or_true, Nat.zero_add, dp_s, Nat.reduceAdd, le8_0, le8_1, le8_2, le8_3, le8_4, le8_5, le8_6, le8_7, le8_8, Classical.not_not, aT40, aT41, aT42, aT44, aT54, aT58, aT59, rT54, rT58, rT59, reduceIte, Nat.reduceEqDiff, qn_42, qn_44, true_implies, not_true_eq_false, not_false_eq_true, false_implies, ↓shO_of b1, ↓rrf_of b2, ↓shA_of b3, lt_T, le_T, T_0, T_16, nT (show j < 2147483648 by omega), nC (show j < 2147483648 by omega), g4 j hj]
    exact ⟨fun c => by omega, fun _ => ⟨fun c => by omega, fun _ => ⟨hi, h1 j hj rfl⟩⟩⟩
  · have hk := h0 hi
    refine vc_X 30 _ _ _ _ _ _ _ ?_
    simp only [↓v27_0, ↓v27_1, ↓v27_4, ↓v27_5, ↓v27_7, ↓v27_10, ↓v27_11, ↓v27_14, ↓v27_15, ↓v27_16, ↓v27_19, ↓v27_20, ↓qI_c, ↓qL_c, ↓qR_c, ↓pA_o, ↓qC_i, ↓qC_r, ↓oA_s, ↓gI_0, ↓gI_1, ↓gI_2, ↓gI_3, ↓gI_4, ↓gI_5, ↓gI_6, ↓gI_7, ↓gI_8, ↓gI_9, ↓gI_10, ↓gR_0, ↓gR_1, ↓gR_2, ↓gR_3, ↓gR_4, ↓gR_5, ↓gR_6, ↓gR_7, ↓gR_8, ↓gR_9, ↓gR_10, ↓sL_0, ↓sL_1, ↓sL_2, ↓sL_3, ↓sL_4, ↓sL_5, ↓sL_6, ↓sL_7, ↓sL_8, ↓sL_9, ↓sL_10, ↓rrf_si, ↓rrf_sg, ↓shO_si, ↓shO_sg, ↓shO_sr, ↓shA_si, ↓shA_sg, ↓shA_sr, ↓pAs_0, ↓pAs_i, ↓pAs_r, stk_n, stk_i, stk_l, stk_r, List.nil_append, List.cons_append, true_and, and_true, true_or, or_true, Nat.zero_add, dp_s, Nat.reduceAdd, le8_0, le8_1, le8_2, le8_3, le8_4, le8_5, le8_6, le8_7, le8_8, Classical.not_not, aT40, aT41, aT42, aT44, aT54, aT58, aT59, rT54, rT58, rT59, reduceIte, Nat.reduceEqDiff, qn_42, qn_44, true_implies, not_true_eq_false, not_false_eq_true, false_implies, ↓shO_of b1, ↓rrf_of b2, ↓shA_of b3, lt_T, le_T, T_0, T_16]
    exact ⟨fun _ => hk, fun c => ⟨fun _ => hk, fun c2 => absurd ⟨by omega, by omega⟩ hi⟩⟩
theorem k75 {d : Nat} {M : Mm} {k : mQ} {w : Nat} {x : WT} (h : WrC M w x) (hk : k (some (.inl (if x.2.2.1 < 128 then 1 else 0))) M) : XC (d + 1) 75 [.inr (some w)] M k := by
  obtain ⟨⟨b1, b2, b3, b4, b5⟩, g1, g2, g3, g4, g5, g6, g7⟩ := h
  refine xc ?_
  show X d 75 0 [some (.inr (some w))] [] M k
  refine vc_X 30 _ _ _ _ _ _ _ ?_
  simp only [↓v75_0, ↓v75_1, ↓v75_4, ↓v75_7, ↓v75_8, ↓v75_11, ↓v75_14, ↓v75_17, ↓v75_18, ↓v75_21, ↓v75_22, ↓qI_c, ↓qL_c, ↓qR_c, ↓pA_o, ↓qC_i, ↓qC_r, ↓oA_s, ↓gI_0, ↓gI_1, ↓gI_2, ↓gI_3, ↓gI_4, ↓gI_5, ↓gI_6, ↓gI_7, ↓gI_8, ↓gI_9, ↓gI_10, ↓gR_0, ↓gR_1, ↓gR_2, ↓gR_3, ↓gR_4, ↓gR_5, ↓gR_6, ↓gR_7, ↓gR_8, ↓gR_9, ↓gR_10, ↓sL_0, ↓sL_1, ↓sL_2, ↓sL_3, ↓sL_4, ↓sL_5, ↓sL_6, ↓sL_7, ↓sL_8, ↓sL_9, ↓sL_10, ↓rrf_si, ↓rrf_sg, ↓shO_si, ↓shO_sg, ↓shO_sr, ↓shA_si, ↓shA_sg, ↓shA_sr, ↓pAs_0, ↓pAs_i, ↓pAs_r, stk_n, stk_i, stk_l, stk_r, List.nil_append, List.cons_append, true_and, and_true, true_or, or_true, Nat.zero_add, dp_s, Nat.reduceAdd, le8_0, le8_1, le8_2, le8_3, le8_4, le8_5, le8_6, le8_7, le8_8, Classical.not_not, aT40, aT41, aT42, aT44, aT54, aT58, aT59, rT54, rT58, rT59, reduceIte, Nat.reduceEqDiff, qn_42, qn_44, true_implies, not_true_eq_false, not_false_eq_true, false_implies, ↓shO_of b1, g2, lt_T, le_T, T_0, T_128, nT (show x.2.2.1 < 2147483648 by omega)]
  refine ⟨fun c => by omega, fun _ => ⟨fun c => ?_, fun c => ?_⟩⟩
  · rw [if_neg (by omega)] at hk
    exact hk
  · rw [if_pos (by omega)] at hk
    exact hk
theorem k82 {d : Nat} {M : Mm} {k : mQ} {w : Nat} {e : Int32} {x : WT} (h : WrC M w x) (hk : k (some (.inl (if x.2.2.1 < 128 ∧ nI (x.2.2.1 / 16) = e then 1 else 0))) M) : XC (d + 2) 82 [.inr (some w), .inl e] M k := by
  obtain ⟨⟨b1, b2, b3, b4, b5⟩, g1, g2, g3, g4, g5, g6, g7⟩ := id h
  refine xc ?_
  show X (d + 1) 82 0 [some (.inr (some w)), some (.inl e)] [] M k
  refine vc_X 30 _ _ _ _ _ _ _ ?_
  simp only [↓v82_0, ↓v82_1, ↓v82_4, ↓v82_7, ↓v82_8, ↓v82_11, ↓v82_13, ↓v82_14, ↓v82_15, ↓v82_18, ↓v82_19, ↓v82_22, ↓v82_23, ↓qI_c, ↓qL_c, ↓qR_c, ↓pA_o, ↓qC_i, ↓qC_r, ↓oA_s, ↓gI_0, ↓gI_1, ↓gI_2, ↓gI_3, ↓gI_4, ↓gI_5, ↓gI_6, ↓gI_7, ↓gI_8, ↓gI_9, ↓gI_10, ↓gR_0, ↓gR_1, ↓gR_2, ↓gR_3, ↓gR_4, ↓gR_5, ↓gR_6, ↓gR_7, ↓gR_8, ↓gR_9, ↓gR_10, ↓sL_0, ↓sL_1, ↓sL_2, ↓sL_3, ↓sL_4, ↓sL_5, ↓sL_6, ↓sL_7, ↓sL_8, ↓sL_9, ↓sL_10, ↓rrf_si, ↓rrf_sg, ↓shO_si, ↓shO_sg, ↓shO_sr, ↓shA_si, ↓shA_sg, ↓shA_sr, ↓pAs_0, ↓pAs_i, ↓pAs_r, stk_n, stk_i, stk_l, stk_r, List.nil_append, List.cons_append, true_and, and_true, true_or, or_true, Nat.zero_add, dp_s, Nat.reduceAdd, le8_0, le8_1, le8_2, le8_3, le8_4, le8_5, le8_6, le8_7, le8_8, Classical.not_not, aT40, aT41, aT42, aT44, aT54, aT58, aT59, rT54, rT58, rT59, reduceIte, Nat.reduceEqDiff, qn_42, qn_44, true_implies, not_true_eq_false, not_false_eq_true, false_implies, ↓shO_of b1]
  refine k75 h ⟨_, rfl, ?_⟩
  by_cases hx : x.2.2.1 < 128
  · rw [if_pos hx]
    refine vc_X 30 _ _ _ _ _ _ _ ?_
    simp only [↓v82_0, ↓v82_1, ↓v82_4, ↓v82_7, ↓v82_8, ↓v82_11, ↓v82_13, ↓v82_14, ↓v82_15, ↓v82_18, ↓v82_19, ↓v82_22, ↓v82_23, ↓qI_c, ↓qL_c, ↓qR_c, ↓pA_o, ↓qC_i, ↓qC_r, ↓oA_s, ↓gI_0, ↓gI_1, ↓gI_2, ↓gI_3, ↓gI_4, ↓gI_5, ↓gI_6, ↓gI_7, ↓gI_8, ↓gI_9, ↓gI_10, ↓gR_0, ↓gR_1, ↓gR_2, ↓gR_3, ↓gR_4, ↓gR_5, ↓gR_6, ↓gR_7, ↓gR_8, ↓gR_9, ↓gR_10, ↓sL_0, ↓sL_1, ↓sL_2, ↓sL_3, ↓sL_4, ↓sL_5, ↓sL_6, ↓sL_7, ↓sL_8, ↓sL_9, ↓sL_10, ↓rrf_si, ↓rrf_sg, ↓shO_si, ↓shO_sg, ↓shO_sr, ↓shA_si, ↓shA_sg, ↓shA_sr, ↓pAs_0, ↓pAs_i, ↓pAs_r, stk_n, stk_i, stk_l, stk_r, List.nil_append, List.cons_append, true_and, and_true, true_or, or_true, Nat.zero_add, dp_s, Nat.reduceAdd, le8_0, le8_1, le8_2, le8_3, le8_4, le8_5, le8_6, le8_7, le8_8, Classical.not_not, aT40, aT41, aT42, aT44, aT54, aT58, aT59, rT54, rT58, rT59, reduceIte, Nat.reduceEqDiff, qn_42, qn_44, true_implies, not_true_eq_false, not_false_eq_true, false_implies, ↓shO_of b1, i10, g2]
    rw [n_16, pk_div (by omega) (by omega) (by omega)]
    refine ⟨by decide, fun c => ?_, fun c => ?_⟩
    · rw [if_neg (fun q => c q.2)] at hk
      exact hk
    · rw [if_pos ⟨hx, c⟩] at hk
      exact hk
  · rw [if_neg hx]
    refine vc_X 30 _ _ _ _ _ _ _ ?_
    simp only [↓v82_0, ↓v82_1, ↓v82_4, ↓v82_7, ↓v82_8, ↓v82_11, ↓v82_13, ↓v82_14, ↓v82_15, ↓v82_18, ↓v82_19, ↓v82_22, ↓v82_23, ↓qI_c, ↓qL_c, ↓qR_c, ↓pA_o, ↓qC_i, ↓qC_r, ↓oA_s, ↓gI_0, ↓gI_1, ↓gI_2, ↓gI_3, ↓gI_4, ↓gI_5, ↓gI_6, ↓gI_7, ↓gI_8, ↓gI_9, ↓gI_10, ↓gR_0, ↓gR_1, ↓gR_2, ↓gR_3, ↓gR_4, ↓gR_5, ↓gR_6, ↓gR_7, ↓gR_8, ↓gR_9, ↓gR_10, ↓sL_0, ↓sL_1, ↓sL_2, ↓sL_3, ↓sL_4, ↓sL_5, ↓sL_6, ↓sL_7, ↓sL_8, ↓sL_9, ↓sL_10, ↓rrf_si, ↓rrf_sg, ↓shO_si, ↓shO_sg, ↓shO_sr, ↓shA_si, ↓shA_sg, ↓shA_sr, ↓pAs_0, ↓pAs_i, ↓pAs_r, stk_n, stk_i, stk_l, stk_r, List.nil_append, List.cons_append, true_and, and_true, true_or, or_true, Nat.zero_add, dp_s, Nat.reduceAdd, le8_0, le8_1, le8_2, le8_3, le8_4, le8_5, le8_6, le8_7, le8_8, Classical.not_not, aT40, aT41, aT42, aT44, aT54, aT58, aT59, rT54, rT58, rT59, reduceIte, Nat.reduceEqDiff, qn_42, qn_44, true_implies, not_true_eq_false, not_false_eq_true, false_implies, i00]
    rw [if_neg (fun q => hx q.1)] at hk
    exact hk
theorem k56 {d : Nat} {M : Mm} {k : mQ} {w s n t : Nat} (h : Wr M w s) (hn : n < 1000000) (ht : t < 130) (hk : ∀ M' : Mm, (∀ j, j < 16 → M'.it (w + 1) j = M.it (w + 1) j) → WrC M' w (s, n, t, none, M.it (w + 1), fun _ => false) → Of (· = w) M M' → k none M') : XC (d + 1) 56 [.inr (some w), .inl (nI n), .inl (nI t)] M k := by
  obtain ⟨b1, b2, b3, b4, b5⟩ := id h
  refine xc ?_
  show X d 56 0 [some (.inr (some w)), some (.inl (nI n)), some (.inl (nI t))] [] M k
  refine vc_X 30 _ _ _ _ _ _ _ ?_
  simp only [↓v56_0, ↓v56_1, ↓v56_2, ↓v56_5, ↓v56_6, ↓v56_7, ↓v56_10, ↓v56_11, ↓v56_12, ↓v56_15, ↓v56_16, ↓v56_17, ↓v56_20, ↓v56_21, ↓v56_22, ↓v56_25, ↓qI_c, ↓qL_c, ↓qR_c, ↓pA_o, ↓qC_i, ↓qC_r, ↓oA_s, ↓gI_0, ↓gI_1, ↓gI_2, ↓gI_3, ↓gI_4, ↓gI_5, ↓gI_6, ↓gI_7, ↓gI_8, ↓gI_9, ↓gI_10, ↓gR_0, ↓gR_1, ↓gR_2, ↓gR_3, ↓gR_4, ↓gR_5, ↓gR_6, ↓gR_7, ↓gR_8, ↓gR_9, ↓gR_10, ↓sL_0, ↓sL_1, ↓sL_2, ↓sL_3, ↓sL_4, ↓sL_5, ↓sL_6, ↓sL_7, ↓sL_8, ↓sL_9, ↓sL_10, ↓rrf_si, ↓rrf_sg, ↓shO_si, ↓shO_sg, ↓shO_sr, ↓shA_si, ↓shA_sg, ↓shA_sr, ↓pAs_0, ↓pAs_i, ↓pAs_r, stk_n, stk_i, stk_l, stk_r, List.nil_append, List.cons_append, true_and, and_true, true_or, or_true, Nat.zero_add, dp_s, Nat.reduceAdd, le8_0, le8_1, le8_2, le8_3, le8_4, le8_5, le8_6, le8_7, le8_8, Classical.not_not, aT40, aT41, aT42, aT44, aT54, aT58, aT59, rT54, rT58, rT59, reduceIte, Nat.reduceEqDiff, qn_42, qn_44, true_implies, not_true_eq_false, not_false_eq_true, false_implies, ↓shO_of b1]
  have o : Of (· = w) M (((((M.si w 2 (nI n)).si w 3 (nI t)).sr w 4 none).sg w 5 0).sg w 6 0) := (((((Of.rf_ : Of (· = w) M M).i rfl).i rfl).r rfl).l rfl).l rfl
  refine hk _ (fun j _ => (o.2.2.2 (w + 1) (by omega) j).1) ⟨⟨b1, ?_, b3, ?_, b5⟩, ?_, ?_, ?_, fun j _ => (o.2.2.2 (w + 1) (by omega) j).1, fun s' hs' => ?_, hn, ht⟩ o
  · show ((M.si w 2 (nI n)).si w 3 (nI t) |>.sr w 4 none).rf w 1 = _
    rw [sr_rf, if_neg (by simp)]
    exact b2
  · show ((M.si w 2 (nI n)).si w 3 (nI t)).it w 0 = _
    rw [si_it, if_neg (by simp), si_it, if_neg (by simp)]
    exact b4
  · show ((M.si w 2 (nI n)).si w 3 (nI t)).it w 2 = _
    rw [si_it, if_neg (by simp), si_it, if_pos ⟨rfl, rfl⟩]
  · show ((M.si w 2 (nI n)).si w 3 (nI t)).it w 3 = _
    rw [si_it, if_pos ⟨rfl, rfl⟩]
  · show ((M.si w 2 (nI n)).si w 3 (nI t) |>.sr w 4 none).rf w 4 = _
    rw [sr_rf, if_pos ⟨rfl, rfl⟩]
  · rw [sg_lg, if_neg (by simp), sg_lg, if_pos ⟨rfl, rfl⟩, sg_lg, if_pos ⟨rfl, rfl⟩]
    unfold bitOf
    split
    · exact BitVec.getLsbD_zero
    · exact BitVec.getLsbD_zero
theorem k58 {d : Nat} {M : Mm} {k : mQ} {w v t : Nat} {x : WT} (h : WrC M w x) (hv : Wr M v t) (hk : ∀ M', WrC M' w (x.1, x.2.1, x.2.2.1, x.2.2.2.1, x.2.2.2.2.1, fun s => x.2.2.2.2.2 s || decide (s = t)) → Of (· = w) M M' → k none M') : XC (d + 1) 58 [.inr (some w), .inr (some v)] M k := by
  obtain ⟨⟨b1, b2, b3, b4, b5⟩, g1, g2, g3, g4, g5, g6, g7⟩ := id h
  obtain ⟨c1, c2, c3, c4, c5⟩ := hv
  refine xc ?_
  show X d 58 0 [some (.inr (some w)), some (.inr (some v))] [] M k
  have T64 : (64 : Int32).toInt = 64 := rfl
  refine vc_X 40 _ _ _ _ _ _ _ ?_
  simp only [↓v58_0, ↓v58_1, ↓v58_4, ↓v58_5, ↓v58_6, ↓v58_9, ↓v58_11, ↓v58_14, ↓v58_15, ↓v58_16, ↓v58_19, ↓v58_20, ↓v58_21, ↓v58_24, ↓v58_25, ↓v58_26, ↓v58_29, ↓v58_32, ↓v58_33, ↓v58_34, ↓v58_37, ↓v58_38, ↓v58_39, ↓v58_42, ↓v58_44, ↓v58_45, ↓v58_46, ↓v58_47, ↓v58_50, ↓qI_c, ↓qL_c, ↓qR_c, ↓pA_o, ↓qC_i, ↓qC_r, ↓oA_s, ↓gI_0, ↓gI_1, ↓gI_2, ↓gI_3, ↓gI_4, ↓gI_5, ↓gI_6, ↓gI_7, ↓gI_8, ↓gI_9, ↓gI_10, ↓gR_0, ↓gR_1, ↓gR_2, ↓gR_3, ↓gR_4, ↓gR_5, ↓gR_6, ↓gR_7, ↓gR_8, ↓gR_9, ↓gR_10, ↓sL_0, ↓sL_1, ↓sL_2, ↓sL_3, ↓sL_4, ↓sL_5, ↓sL_6, ↓sL_7, ↓sL_8, ↓sL_9, ↓sL_10, ↓rrf_si, ↓rrf_sg, ↓shO_si, ↓shO_sg, ↓shO_sr, ↓shA_si, ↓shA_sg, ↓shA_sr, ↓pAs_0, ↓pAs_i, ↓pAs_r, stk_n, stk_i, stk_l, stk_r, List.nil_append, List.cons_append, true_and, and_true, true_or, or_true, Nat.zero_add, dp_s, Nat.reduceAdd, le8_0, le8_1, le8_2, le8_3, le8_4, le8_5, le8_6, le8_7, le8_8, Classical.not_not, aT40, aT41, aT42, aT44, aT54, aT58, aT59, rT54, rT58, rT59, reduceIte, Nat.reduceEqDiff, qn_42, qn_44, true_implies, not_true_eq_false, not_false_eq_true, false_implies, ↓shO_of b1, ↓shO_of c1, c4, sn, le_T, T64, nT (show t < 2147483648 by omega)]
  refine ⟨fun c => ?_, fun c => ?_⟩
  · rw [show (64 : Int32) = nI 64 from rfl, pk_sub (by omega)]
    have o : Of (· = w) M (M.sg w 6 (M.lg w 6 ||| 1 <<< ((nI (t - 64)).toInt64 &&& 63))) := Of.rf_.l rfl
    refine hk _ ⟨⟨b1, b2, b3, b4, b5⟩, g1, g2, g3, g4, fun s hs => ?_, g6, g7⟩ o
    rw [sg_lg, if_neg (by simp), sg_lg, if_pos ⟨rfl, rfl⟩]
    show bitOf _ _ s = (x.2.2.2.2.2 s || decide (s = t))
    rw [← g5 s hs]
    unfold bitOf
    by_cases h64 : s < 64
    · rw [if_pos h64, if_pos h64, show decide (s = t) = false by simp; omega]
      simp
    · rw [if_neg h64, if_neg h64, or_b _ (by omega)]
      congr 1
      simp
      omega
  · have o : Of (· = w) M (M.sg w 5 (M.lg w 5 ||| 1 <<< ((nI t).toInt64 &&& 63))) := Of.rf_.l rfl
    refine hk _ ⟨⟨b1, b2, b3, b4, b5⟩, g1, g2, g3, g4, fun s hs => ?_, g6, g7⟩ o
    rw [sg_lg, if_pos ⟨rfl, rfl⟩, sg_lg, if_neg (by simp)]
    show bitOf _ _ s = (x.2.2.2.2.2 s || decide (s = t))
    rw [← g5 s hs]
    unfold bitOf
    by_cases h64 : s < 64
    · rw [if_pos h64, if_pos h64, or_b _ (by omega)]
    · rw [if_neg h64, if_neg h64, show decide (s = t) = false by simp; omega]
      simp
theorem k58n {d : Nat} {M : Mm} {k : mQ} {w : Nat} (hk : k none M) : XC (d + 1) 58 [.inr (some w), .inr none] M k := by
  refine xc ?_
  show X d 58 0 [some (.inr (some w)), some (.inr none)] [] M k
  refine vc_X 40 _ _ _ _ _ _ _ ?_
  simp only [↓v58_0, ↓v58_1, ↓v58_4, ↓v58_5, ↓v58_6, ↓v58_9, ↓v58_11, ↓v58_14, ↓v58_15, ↓v58_16, ↓v58_19, ↓v58_20, ↓v58_21, ↓v58_24, ↓v58_25, ↓v58_26, ↓v58_29, ↓v58_32, ↓v58_33, ↓v58_34, ↓v58_37, ↓v58_38, ↓v58_39, ↓v58_42, ↓v58_44, ↓v58_45, ↓v58_46, ↓v58_47, ↓v58_50, ↓qI_c, ↓qL_c, ↓qR_c, ↓pA_o, ↓qC_i, ↓qC_r, ↓oA_s, ↓gI_0, ↓gI_1, ↓gI_2, ↓gI_3, ↓gI_4, ↓gI_5, ↓gI_6, ↓gI_7, ↓gI_8, ↓gI_9, ↓gI_10, ↓gR_0, ↓gR_1, ↓gR_2, ↓gR_3, ↓gR_4, ↓gR_5, ↓gR_6, ↓gR_7, ↓gR_8, ↓gR_9, ↓gR_10, ↓sL_0, ↓sL_1, ↓sL_2, ↓sL_3, ↓sL_4, ↓sL_5, ↓sL_6, ↓sL_7, ↓sL_8, ↓sL_9, ↓sL_10, ↓rrf_si, ↓rrf_sg, ↓shO_si, ↓shO_sg, ↓shO_sr, ↓shA_si, ↓shA_sg, ↓shA_sr, ↓pAs_0, ↓pAs_i, ↓pAs_r, stk_n, stk_i, stk_l, stk_r, List.nil_append, List.cons_append, true_and, and_true, true_or, or_true, Nat.zero_add, dp_s, Nat.reduceAdd, le8_0, le8_1, le8_2, le8_3, le8_4, le8_5, le8_6, le8_7, le8_8, Classical.not_not, aT40, aT41, aT42, aT44, aT54, aT58, aT59, rT54, rT58, rT59, reduceIte, Nat.reduceEqDiff, qn_42, qn_44, true_implies, not_true_eq_false, not_false_eq_true, false_implies]
  exact hk
theorem k98 {d : Nat} {M : Mm} {k : mQ} {w v t : Nat} {x : WT} (h : WrC M w x) (hv : Wr M v t) (hk : ∀ M', WrC M' w (x.1, x.2.1, x.2.2.1, x.2.2.2.1, x.2.2.2.2.1, fun s => x.2.2.2.2.2 s && !decide (s = t)) → Of (· = w) M M' → k none M') : XC (d + 1) 98 [.inr (some w), .inr (some v)] M k := by
  obtain ⟨⟨b1, b2, b3, b4, b5⟩, g1, g2, g3, g4, g5, g6, g7⟩ := id h
  obtain ⟨c1, c2, c3, c4, c5⟩ := hv
  refine xc ?_
  show X d 98 0 [some (.inr (some w)), some (.inr (some v))] [] M k
  have T64 : (64 : Int32).toInt = 64 := rfl
  refine vc_X 40 _ _ _ _ _ _ _ ?_
  simp only [↓v98_0, ↓v98_1, ↓v98_4, ↓v98_6, ↓v98_9, ↓v98_10, ↓v98_11, ↓v98_14, ↓v98_15, ↓v98_16, ↓v98_19, ↓v98_20, ↓v98_23, ↓v98_24, ↓v98_25, ↓v98_28, ↓v98_31, ↓v98_32, ↓v98_33, ↓v98_36, ↓v98_37, ↓v98_38, ↓v98_41, ↓v98_43, ↓v98_44, ↓v98_45, ↓v98_48, ↓v98_49, ↓v98_50, ↓v98_53, ↓qI_c, ↓qL_c, ↓qR_c, ↓pA_o, ↓qC_i, ↓qC_r, ↓oA_s, ↓gI_0, ↓gI_1, ↓gI_2, ↓gI_3, ↓gI_4, ↓gI_5, ↓gI_6, ↓gI_7, ↓gI_8, ↓gI_9, ↓gI_10, ↓gR_0, ↓gR_1, ↓gR_2, ↓gR_3, ↓gR_4, ↓gR_5, ↓gR_6, ↓gR_7, ↓gR_8, ↓gR_9, ↓gR_10, ↓sL_0, ↓sL_1, ↓sL_2, ↓sL_3, ↓sL_4, ↓sL_5, ↓sL_6, ↓sL_7, ↓sL_8, ↓sL_9, ↓sL_10, ↓rrf_si, ↓rrf_sg, ↓shO_si, ↓shO_sg, ↓shO_sr, ↓shA_si, ↓shA_sg, ↓shA_sr, ↓pAs_0, ↓pAs_i, ↓pAs_r, stk_n, stk_i, stk_l, stk_r, List.nil_append, List.cons_append, true_and, and_true, true_or, or_true, Nat.zero_add, dp_s, Nat.reduceAdd, le8_0, le8_1, le8_2, le8_3, le8_4, le8_5, le8_6, le8_7, le8_8, Classical.not_not, aT40, aT41, aT42, aT44, aT54, aT58, aT59, rT54, rT58, rT59, reduceIte, Nat.reduceEqDiff, qn_42, qn_44, true_implies, not_true_eq_false, not_false_eq_true, false_implies, ↓shO_of b1, ↓shO_of c1, c4, sn, le_T, T64, nT (show t < 2147483648 by omega)]
  refine ⟨fun c => ?_, fun c => ?_⟩
  · rw [show (64 : Int32) = nI 64 from rfl, pk_sub (by omega)]
    have o : Of (· = w) M (M.sg w 6 (M.lg w 6 &&& (1 <<< ((nI (t - 64)).toInt64 &&& 63) ^^^ -1))) := Of.rf_.l rfl
    refine hk _ ⟨⟨b1, b2, b3, b4, b5⟩, g1, g2, g3, g4, fun s hs => ?_, g6, g7⟩ o
    rw [sg_lg, if_neg (by simp), sg_lg, if_pos ⟨rfl, rfl⟩]
    show bitOf _ _ s = (x.2.2.2.2.2 s && !decide (s = t))
    rw [← g5 s hs]
    unfold bitOf
    by_cases h64 : s < 64
    · rw [if_pos h64, if_pos h64, show decide (s = t) = false by simp; omega]
      simp
    · rw [if_neg h64, if_neg h64, an_b _ (by omega)]
      congr 2
      simp
      omega
  · have o : Of (· = w) M (M.sg w 5 (M.lg w 5 &&& (1 <<< ((nI t).toInt64 &&& 63) ^^^ -1))) := Of.rf_.l rfl
    refine hk _ ⟨⟨b1, b2, b3, b4, b5⟩, g1, g2, g3, g4, fun s hs => ?_, g6, g7⟩ o
    rw [sg_lg, if_pos ⟨rfl, rfl⟩, sg_lg, if_neg (by simp)]
    show bitOf _ _ s = (x.2.2.2.2.2 s && !decide (s = t))
    rw [← g5 s hs]
    unfold bitOf
    by_cases h64 : s < 64
    · rw [if_pos h64, if_pos h64, an_b _ (by omega)]
    · rw [if_neg h64, if_neg h64, show decide (s = t) = false by simp; omega]
      simp
/-- the bytes of a block that a write gets: what the row has, then 0 -/
def blkB (l : List Int32) (st j : Nat) : Int32 := (l[st + j]?).getD 0
theorem lop57 {d : Nat} {k : mQ} {w s a c N st : Nat} {l : List Int32} (hst : st < 10000) (hb : ∀ v ∈ l, 0 ≤ v.toInt) (h1 : a ≠ w + 1) (h2 : c ≠ w + 1) : ∀ (m i : Nat) (M : Mm), i + m = 16 → Wr M w s → BC M a c N l → (∀ j, j < i → M.it (w + 1) j = blkB l st j) → (∀ M', (∀ j, j < 16 → M'.it (w + 1) j = blkB l st j) → On [w + 1] M M' → k none M') →
    X (d + 1) 57 2 [some (.inr (some w)), some (.inr (some a)), some (.inl (nI st)), some (.inl (nI i))] [] M k := by
  intro m
  induction m with
  | zero =>
    intro i M hi hw h hp hk
    have : i = 16 := by omega
    subst this
    refine vc_X 30 _ _ _ _ _ _ _ ?_
    simp only [↓v57_0, ↓v57_1, ↓v57_2, ↓v57_3, ↓v57_5, ↓v57_8, ↓v57_9, ↓v57_12, ↓v57_13, ↓v57_14, ↓v57_15, ↓v57_16, ↓v57_17, ↓v57_20, ↓v57_21, ↓v57_24, ↓v57_25, ↓v57_28, ↓v57_31, ↓qI_c, ↓qL_c, ↓qR_c, ↓pA_o, ↓qC_i, ↓qC_r, ↓oA_s, ↓gI_0, ↓gI_1, ↓gI_2, ↓gI_3, ↓gI_4, ↓gI_5, ↓gI_6, ↓gI_7, ↓gI_8, ↓gI_9, ↓gI_10, ↓gR_0, ↓gR_1, ↓gR_2, ↓gR_3, ↓gR_4, ↓gR_5, ↓gR_6, ↓gR_7, ↓gR_8, ↓gR_9, ↓gR_10, ↓sL_0, ↓sL_1, ↓sL_2, ↓sL_3, ↓sL_4, ↓sL_5, ↓sL_6, ↓sL_7, ↓sL_8, ↓sL_9, ↓sL_10, ↓rrf_si, ↓rrf_sg, ↓shO_si, ↓shO_sg, ↓shO_sr, ↓shA_si, ↓shA_sg, ↓shA_sr, ↓pAs_0, ↓pAs_i, ↓pAs_r, stk_n, stk_i, stk_l, stk_r, List.nil_append, List.cons_append, true_and, and_true, true_or, or_true, Nat.zero_add, dp_s, Nat.reduceAdd, le8_0, le8_1, le8_2, le8_3, le8_4, le8_5, le8_6, le8_7, le8_8, Classical.not_not, aT40, aT41, aT42, aT44, aT54, aT58, aT59, rT54, rT58, rT59, reduceIte, Nat.reduceEqDiff, qn_42, qn_44, true_implies, not_true_eq_false, not_false_eq_true, false_implies, le_T, T_16, nT (show 16 < 2147483648 by omega)]
    exact ⟨fun _ => hk M hp On.rf_, fun c => absurd (by decide) c⟩
  | succ m ih =>
    intro i M hi hw h hp hk
    obtain ⟨b1, b2, b3, b4, b5⟩ := id hw
    have hN := h.1.2.2.2
    have hl := h.2.2.1
    refine vc_X 30 _ _ _ _ _ _ _ ?_
    simp only [↓v57_0, ↓v57_1, ↓v57_2, ↓v57_3, ↓v57_5, ↓v57_8, ↓v57_9, ↓v57_12, ↓v57_13, ↓v57_14, ↓v57_15, ↓v57_16, ↓v57_17, ↓v57_20, ↓v57_21, ↓v57_24, ↓v57_25, ↓v57_28, ↓v57_31, ↓qI_c, ↓qL_c, ↓qR_c, ↓pA_o, ↓qC_i, ↓qC_r, ↓oA_s, ↓gI_0, ↓gI_1, ↓gI_2, ↓gI_3, ↓gI_4, ↓gI_5, ↓gI_6, ↓gI_7, ↓gI_8, ↓gI_9, ↓gI_10, ↓gR_0, ↓gR_1, ↓gR_2, ↓gR_3, ↓gR_4, ↓gR_5, ↓gR_6, ↓gR_7, ↓gR_8, ↓gR_9, ↓gR_10, ↓sL_0, ↓sL_1, ↓sL_2, ↓sL_3, ↓sL_4, ↓sL_5, ↓sL_6, ↓sL_7, ↓sL_8, ↓sL_9, ↓sL_10, ↓rrf_si, ↓rrf_sg, ↓shO_si, ↓shO_sg, ↓shO_sr, ↓shA_si, ↓shA_sg, ↓shA_sr, ↓pAs_0, ↓pAs_i, ↓pAs_r, stk_n, stk_i, stk_l, stk_r, List.nil_append, List.cons_append, true_and, and_true, true_or, or_true, Nat.zero_add, dp_s, Nat.reduceAdd, le8_0, le8_1, le8_2, le8_3, le8_4, le8_5, le8_6, le8_7, le8_8, Classical.not_not, aT40, aT41, aT42, aT44, aT54, aT58, aT59, rT54, rT58, rT59, reduceIte, Nat.reduceEqDiff, qn_42, qn_44, true_implies, not_true_eq_false, not_false_eq_true, false_implies, le_T, T_16, nT (show i < 2147483648 by omega), ↓shO_of b1, ↓rrf_of b2, nI_add, ↓shO_of h.1.1]
    refine ⟨fun c => by omega, fun _ => ?_⟩
    -- behind the call of at(): its answer v, the byte is the greater of v and 0
    have go : ∀ v : Int32, imax v 0 = blkB l st i → X (d + 1) 57 20 [some (.inr (some w)), some (.inr (some a)), some (.inl (nI st)), some (.inl (nI i))] [.inl v, .inl (nI i), .inr (.inr (some (w + 1)))] M k := by
      intro v hv
      refine vc_X 30 _ _ _ _ _ _ _ ?_
      simp only [↓v57_0, ↓v57_1, ↓v57_2, ↓v57_3, ↓v57_5, ↓v57_8, ↓v57_9, ↓v57_12, ↓v57_13, ↓v57_14, ↓v57_15, ↓v57_16, ↓v57_17, ↓v57_20, ↓v57_21, ↓v57_24, ↓v57_25, ↓v57_28, ↓v57_31, ↓qI_c, ↓qL_c, ↓qR_c, ↓pA_o, ↓qC_i, ↓qC_r, ↓oA_s, ↓gI_0, ↓gI_1, ↓gI_2, ↓gI_3, ↓gI_4, ↓gI_5, ↓gI_6, ↓gI_7, ↓gI_8, ↓gI_9, ↓gI_10, ↓gR_0, ↓gR_1, ↓gR_2, ↓gR_3, ↓gR_4, ↓gR_5, ↓gR_6, ↓gR_7, ↓gR_8, ↓gR_9, ↓gR_10, ↓sL_0, ↓sL_1, ↓sL_2, ↓sL_3, ↓sL_4, ↓sL_5, ↓sL_6, ↓sL_7, ↓sL_8, ↓sL_9, ↓sL_10, ↓rrf_si, ↓rrf_sg, ↓shO_si, ↓shO_sg, ↓shO_sr, ↓shA_si, ↓shA_sg, ↓shA_sr, ↓pAs_0, ↓pAs_i, ↓pAs_r, stk_n, stk_i, stk_l, stk_r, List.nil_append, List.cons_append, true_and, and_true, true_or, or_true, Nat.zero_add, dp_s, Nat.reduceAdd, le8_0, le8_1, le8_2, le8_3, le8_4, le8_5, le8_6, le8_7, le8_8, Classical.not_not, aT40, aT41, aT42, aT44, aT54, aT58, aT59, rT54, rT58, rT59, reduceIte, Nat.reduceEqDiff, qn_42, qn_44, true_implies, not_true_eq_false, not_false_eq_true, false_implies, ↓shA_of b3, hv, nC (show i < 2147483648 by omega), nI_1]
      refine ⟨inB_n (by omega) (by omega), ?_⟩
      have o : On [w + 1] M (M.si (w + 1) i (blkB l st i)) := On.rf_.put (by simp)
      refine ih (i + 1) _ (by omega) ⟨b1, b2, b3, by rw [si_it, if_neg (by simp)]; exact b4, b5⟩ (h.keep o (by simp [h1]) (by simp [h2])) (fun j hj => ?_) (fun M' q1 q2 => hk M' q1 (o.trans q2 (fun x q => q)))
      rw [si_it]
      by_cases hji : j = i
      · rw [if_pos ⟨rfl, hji⟩, hji]
      · rw [if_neg (fun q => hji q.2)]
        exact hp j (by omega)
    refine k36 h (fun j v hj hv => ⟨_, rfl, go v ?_⟩) (fun c => ⟨_, rfl, go (-1) ?_⟩)
    · rw [nI_eq (by omega) (by have := (List.getElem?_eq_some_iff.mp hv).1; omega)] at hj
      subst hj
      have h0 := hb v (List.mem_of_getElem? hv)
      unfold blkB imax
      rw [hv, if_neg (by rw [lt_T, T_0]; omega)]
      rfl
    · unfold blkB
      rw [List.getElem?_eq_none (by
        rcases Nat.lt_or_ge (st + i) l.length with q | q
        · exact absurd (inB_n q (by omega)) c
        · exact q)]
      decide
theorem k57 {d : Nat} {M : Mm} {k : mQ} {w s a c N st : Nat} {l : List Int32} (hst : st < 10000) (hb : ∀ v ∈ l, 0 ≤ v.toInt) (h1 : a ≠ w + 1) (h2 : c ≠ w + 1) (hw : Wr M w s) (h : BC M a c N l) (hk : ∀ M', (∀ j, j < 16 → M'.it (w + 1) j = blkB l st j) → On [w + 1] M M' → k none M') : XC (d + 2) 57 [.inr (some w), .inr (some a), .inl (nI st)] M k := by
  refine xc ?_
  show X (d + 1) 57 0 [some (.inr (some w)), some (.inr (some a)), some (.inl (nI st)), none] [] M k
  refine vc_X 20 _ _ _ _ _ _ _ ?_
  simp only [↓v57_0, ↓v57_1, ↓v57_2, ↓v57_3, ↓v57_5, ↓v57_8, ↓v57_9, ↓v57_12, ↓v57_13, ↓v57_14, ↓v57_15, ↓v57_16, ↓v57_17, ↓v57_20, ↓v57_21, ↓v57_24, ↓v57_25, ↓v57_28, ↓v57_31, ↓qI_c, ↓qL_c, ↓qR_c, ↓pA_o, ↓qC_i, ↓qC_r, ↓oA_s, ↓gI_0, ↓gI_1, ↓gI_2, ↓gI_3, ↓gI_4, ↓gI_5, ↓gI_6, ↓gI_7, ↓gI_8, ↓gI_9, ↓gI_10, ↓gR_0, ↓gR_1, ↓gR_2, ↓gR_3, ↓gR_4, ↓gR_5, ↓gR_6, ↓gR_7, ↓gR_8, ↓gR_9, ↓gR_10, ↓sL_0, ↓sL_1, ↓sL_2, ↓sL_3, ↓sL_4, ↓sL_5, ↓sL_6, ↓sL_7, ↓sL_8, ↓sL_9, ↓sL_10, ↓rrf_si, ↓rrf_sg, ↓shO_si, ↓shO_sg, ↓shO_sr, ↓shA_si, ↓shA_sg, ↓shA_sr, ↓pAs_0, ↓pAs_i, ↓pAs_r, stk_n, stk_i, stk_l, stk_r, List.nil_append, List.cons_append, true_and, and_true, true_or, or_true, Nat.zero_add, dp_s, Nat.reduceAdd, le8_0, le8_1, le8_2, le8_3, le8_4, le8_5, le8_6, le8_7, le8_8, Classical.not_not, aT40, aT41, aT42, aT44, aT54, aT58, aT59, rT54, rT58, rT59, reduceIte, Nat.reduceEqDiff, qn_42, qn_44, true_implies, not_true_eq_false, not_false_eq_true, false_implies]
  exact lop57 hst hb h1 h2 16 0 M rfl hw h (fun j hj => by omega) hk
