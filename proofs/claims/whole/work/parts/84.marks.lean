/-! marks -/
theorem nb1 : vp_nar .boolean 1 = 1 := by decide +kernel
theorem nb0 : vp_nar .boolean 0 = 0 := by decide +kernel
def MkC (M : Mm) (b : Nat) (mk : Nat → Bool) : Prop := ∀ j, j < 128 → M.it (b + 275) j = bI (mk j)
theorem MkC.congr {M : Mm} {b : Nat} {mk mk' : Nat → Bool} (h : MkC M b mk) (e : ∀ j, j < 128 → mk' j = mk j) : MkC M b mk' := fun j hj => by rw [e j hj]; exact h j hj
theorem bI0 {b : Bool} : (bI b = 0) = (b = false) := by cases b <;> simp [bI]
/-- the mark of a chunk -/
def mkA (dk : Nat → Nat) (ws : List WT) (o : Option Nat) (j : Nat) : Bool := match o with
  | some p => decide (p ≤ j ∧ j < p + nbA dk ws p)
  | none => false
section
variable {D : DT} {Q : QT} {C : List Nat × Nat} {L : (Nat → Nat) × Option Nat} {I : IT} {T : List Nat × List Nat} {E : (Nat → Option Nat) × (Nat → Bool)} {F : FT}
theorem k72 {d : Nat} {M : Mm} {k : mQ} {b : Nat} (h : CP M b D Q C L I T E F) (hk : ∀ M', MkC M' b (fun _ => false) → On [b + 275] M M' → k none M') : XC (d + 1) 72 [.inr (some b)] M k := by
  have lop : ∀ (m i : Nat) (M1 : Mm), i + m = 128 → On [b + 275] M M1 → (∀ j, j < i → M1.it (b + 275) j = 0) → X d 72 2 [some (.inr (some b)), some (.inl (nI i))] [] M1 k := by
    intro m
    induction m with
    | zero =>
      intro i M1 hi o hj
      have e : i = 128 := by omega
      subst e
      refine vc_X 30 _ _ _ _ _ _ _ ?_
      simp only [↓v72_0, ↓v72_1, ↓v72_2, ↓v72_3, ↓v72_6, ↓v72_9, ↓v72_10, ↓v72_13, ↓v72_14, ↓v72_15, ↓v72_16, ↓v72_19, ↓v72_22, ↓qI_c, ↓qL_c, ↓qR_c, ↓pA_o, ↓qC_i, ↓qC_r, ↓oA_s, ↓gI_0, ↓gI_1, ↓gI_2, ↓gI_3, ↓gI_4, ↓gI_5, ↓gI_6, ↓gI_7, ↓gI_8, ↓gI_9, ↓gI_10, ↓gR_0, ↓gR_1, ↓gR_2, ↓gR_3, ↓gR_4, ↓gR_5, ↓gR_6, ↓gR_7, ↓gR_8, ↓gR_9, ↓gR_10, ↓sL_0, ↓sL_1, ↓sL_2, ↓sL_3, ↓sL_4, ↓sL_5, ↓sL_6, ↓sL_7, ↓sL_8, ↓sL_9, ↓sL_10, ↓rrf_si, ↓rrf_sg, ↓shO_si, ↓shO_sg, ↓shO_sr, ↓shA_si, ↓shA_sg, ↓shA_sr, ↓pAs_0, ↓pAs_i, ↓pAs_r, stk_n, stk_i, stk_l, stk_r, List.nil_append, List.cons_append, true_and, and_true, true_or, or_true, Nat.zero_add, dp_s, Nat.reduceAdd, le8_0, le8_1, le8_2, le8_3, le8_4, le8_5, le8_6, le8_7, le8_8, Classical.not_not, aT40, aT41, aT42, aT44, aT54, aT58, aT59, rT54, rT58, rT59, reduceIte, Nat.reduceEqDiff, qn_42, qn_44, true_implies, not_true_eq_false, not_false_eq_true, false_implies, le_T, T_128, nT (show 128 < 2147483648 by omega)]
      exact ⟨fun _ => hk M1 (fun j hj2 => hj j hj2) o, fun c => absurd (by decide) c⟩
    | succ m ih =>
      intro i M1 hi o hj
      have s1 : M1.sh b = some (0, 0) := by rw [o.1]; exact h.1.1.1
      have s2 : M1.rf b 10 = some (b + 275) := by rw [o.2.2.2.2.1]; exact h.1.2.1.2.2.2.2.1
      have s3 : M1.sh (b + 275) = some (42, 128) := by rw [o.1]; exact h.1.2.2.1.1
      refine vc_X 30 _ _ _ _ _ _ _ ?_
      simp only [↓v72_0, ↓v72_1, ↓v72_2, ↓v72_3, ↓v72_6, ↓v72_9, ↓v72_10, ↓v72_13, ↓v72_14, ↓v72_15, ↓v72_16, ↓v72_19, ↓v72_22, ↓qI_c, ↓qL_c, ↓qR_c, ↓pA_o, ↓qC_i, ↓qC_r, ↓oA_s, ↓gI_0, ↓gI_1, ↓gI_2, ↓gI_3, ↓gI_4, ↓gI_5, ↓gI_6, ↓gI_7, ↓gI_8, ↓gI_9, ↓gI_10, ↓gR_0, ↓gR_1, ↓gR_2, ↓gR_3, ↓gR_4, ↓gR_5, ↓gR_6, ↓gR_7, ↓gR_8, ↓gR_9, ↓gR_10, ↓sL_0, ↓sL_1, ↓sL_2, ↓sL_3, ↓sL_4, ↓sL_5, ↓sL_6, ↓sL_7, ↓sL_8, ↓sL_9, ↓sL_10, ↓rrf_si, ↓rrf_sg, ↓shO_si, ↓shO_sg, ↓shO_sr, ↓shA_si, ↓shA_sg, ↓shA_sr, ↓pAs_0, ↓pAs_i, ↓pAs_r, stk_n, stk_i, stk_l, stk_r, List.nil_append, List.cons_append, true_and, and_true, true_or, or_true, Nat.zero_add, dp_s, Nat.reduceAdd, le8_0, le8_1, le8_2, le8_3, le8_4, le8_5, le8_6, le8_7, le8_8, Classical.not_not, aT40, aT41, aT42, aT44, aT54, aT58, aT59, rT54, rT58, rT59, reduceIte, Nat.reduceEqDiff, qn_42, qn_44, true_implies, not_true_eq_false, not_false_eq_true, false_implies, le_T, T_128, nT (show i < 2147483648 by omega), ↓shO_of s1, ↓rrf_of s2, ↓shA_of s3, nb0, nC (show i < 2147483648 by omega), nI_1]
      refine ⟨fun c => by omega, fun _ => ⟨inB_n (by omega) (by omega), ?_⟩⟩
      refine ih (i + 1) _ (by omega) (o.put (by simp)) (fun j hj2 => ?_)
      rw [si_it]
      by_cases hji : j = i
      · rw [if_pos ⟨rfl, hji⟩]
      · rw [if_neg (fun q => hji q.2)]
        exact hj j (by omega)
  refine xc ?_
  show X d 72 0 [some (.inr (some b)), none] [] M k
  refine vc_X 30 _ _ _ _ _ _ _ ?_
  simp only [↓v72_0, ↓v72_1, ↓v72_2, ↓v72_3, ↓v72_6, ↓v72_9, ↓v72_10, ↓v72_13, ↓v72_14, ↓v72_15, ↓v72_16, ↓v72_19, ↓v72_22, ↓qI_c, ↓qL_c, ↓qR_c, ↓pA_o, ↓qC_i, ↓qC_r, ↓oA_s, ↓gI_0, ↓gI_1, ↓gI_2, ↓gI_3, ↓gI_4, ↓gI_5, ↓gI_6, ↓gI_7, ↓gI_8, ↓gI_9, ↓gI_10, ↓gR_0, ↓gR_1, ↓gR_2, ↓gR_3, ↓gR_4, ↓gR_5, ↓gR_6, ↓gR_7, ↓gR_8, ↓gR_9, ↓gR_10, ↓sL_0, ↓sL_1, ↓sL_2, ↓sL_3, ↓sL_4, ↓sL_5, ↓sL_6, ↓sL_7, ↓sL_8, ↓sL_9, ↓sL_10, ↓rrf_si, ↓rrf_sg, ↓shO_si, ↓shO_sg, ↓shO_sr, ↓shA_si, ↓shA_sg, ↓shA_sr, ↓pAs_0, ↓pAs_i, ↓pAs_r, stk_n, stk_i, stk_l, stk_r, List.nil_append, List.cons_append, true_and, and_true, true_or, or_true, Nat.zero_add, dp_s, Nat.reduceAdd, le8_0, le8_1, le8_2, le8_3, le8_4, le8_5, le8_6, le8_7, le8_8, Classical.not_not, aT40, aT41, aT42, aT44, aT54, aT58, aT59, rT54, rT58, rT59, reduceIte, Nat.reduceEqDiff, qn_42, qn_44, true_implies, not_true_eq_false, not_false_eq_true, false_implies]
  exact lop 128 0 M (by omega) On.rf_ (fun j hj => by omega)
theorem k73n {d : Nat} {M : Mm} {k : mQ} {b : Nat} {x : Int32} (hx : x.toInt < 0) (hk : k none M) : XC (d + 5) 73 [.inr (some b), .inl x] M k := by
  refine xc ?_
  show X (d + 4) 73 0 [some (.inr (some b)), some (.inl x), none, none] [] M k
  refine vc_X 30 _ _ _ _ _ _ _ ?_
  simp only [↓v73_0, ↓v73_1, ↓v73_4, ↓v73_5, ↓v73_6, ↓v73_7, ↓v73_8, ↓v73_11, ↓v73_12, ↓v73_15, ↓v73_18, ↓v73_19, ↓v73_20, ↓v73_21, ↓v73_22, ↓v73_23, ↓v73_26, ↓v73_27, ↓v73_30, ↓v73_31, ↓v73_32, ↓v73_33, ↓v73_36, ↓v73_39, ↓qI_c, ↓qL_c, ↓qR_c, ↓pA_o, ↓qC_i, ↓qC_r, ↓oA_s, ↓gI_0, ↓gI_1, ↓gI_2, ↓gI_3, ↓gI_4, ↓gI_5, ↓gI_6, ↓gI_7, ↓gI_8, ↓gI_9, ↓gI_10, ↓gR_0, ↓gR_1, ↓gR_2, ↓gR_3, ↓gR_4, ↓gR_5, ↓gR_6, ↓gR_7, ↓gR_8, ↓gR_9, ↓gR_10, ↓sL_0, ↓sL_1, ↓sL_2, ↓sL_3, ↓sL_4, ↓sL_5, ↓sL_6, ↓sL_7, ↓sL_8, ↓sL_9, ↓sL_10, ↓rrf_si, ↓rrf_sg, ↓shO_si, ↓shO_sg, ↓shO_sr, ↓shA_si, ↓shA_sg, ↓shA_sr, ↓pAs_0, ↓pAs_i, ↓pAs_r, stk_n, stk_i, stk_l, stk_r, List.nil_append, List.cons_append, true_and, and_true, true_or, or_true, Nat.zero_add, dp_s, Nat.reduceAdd, le8_0, le8_1, le8_2, le8_3, le8_4, le8_5, le8_6, le8_7, le8_8, Classical.not_not, aT40, aT41, aT42, aT44, aT54, aT58, aT59, rT54, rT58, rT59, reduceIte, Nat.reduceEqDiff, qn_42, qn_44, true_implies, not_true_eq_false, not_false_eq_true, false_implies, le_T, T_0]
  exact ⟨fun c => by omega, fun _ => hk⟩
theorem k73 {d : Nat} {M : Mm} {k : mQ} {b p : Nat} {mk : Nat → Bool} (h : CP M b D Q C L I T E F) (hw : okW Q.2.2) (hm : MkC M b mk) (hp : p < 128) (hk : ∀ M', MkC M' b (fun j => mk j || mkA D.1 Q.2.2 (some p) j) → On [b + 275] M M' → k none M') : XC (d + 5) 73 [.inr (some b), .inl (nI p)] M k := by
  have hlt := bv_lt h.rd hw hp (show 3 < 16 by omega)
  have hnb : nbA D.1 Q.2.2 p < 20 := by unfold nbA lnA; omega
  generalize hnn : nbA D.1 Q.2.2 p = n at hnb
  have lop : ∀ (m i : Nat) (M1 : Mm), i + m = min (p + n) 128 → p ≤ i → On [b + 275] M M1 → MkC M1 b (fun j => mk j || decide (p ≤ j ∧ j < i)) → X (d + 4) 73 21 [some (.inr (some b)), some (.inl (nI p)), some (.inl (nI (min (p + n) 128))), some (.inl (nI i))] [] M1 k := by
    intro m
    induction m with
    | zero =>
      intro i M1 hi hpi o hj
      refine vc_X 30 _ _ _ _ _ _ _ ?_
      simp only [↓v73_0, ↓v73_1, ↓v73_4, ↓v73_5, ↓v73_6, ↓v73_7, ↓v73_8, ↓v73_11, ↓v73_12, ↓v73_15, ↓v73_18, ↓v73_19, ↓v73_20, ↓v73_21, ↓v73_22, ↓v73_23, ↓v73_26, ↓v73_27, ↓v73_30, ↓v73_31, ↓v73_32, ↓v73_33, ↓v73_36, ↓v73_39, ↓qI_c, ↓qL_c, ↓qR_c, ↓pA_o, ↓qC_i, ↓qC_r, ↓oA_s, ↓gI_0, ↓gI_1, ↓gI_2, ↓gI_3, ↓gI_4, ↓gI_5, ↓gI_6, ↓gI_7, ↓gI_8, ↓gI_9, ↓gI_10, ↓gR_0, ↓gR_1, ↓gR_2, ↓gR_3, ↓gR_4, ↓gR_5, ↓gR_6, ↓gR_7, ↓gR_8, ↓gR_9, ↓gR_10, ↓sL_0, ↓sL_1, ↓sL_2, ↓sL_3, ↓sL_4, ↓sL_5, ↓sL_6, ↓sL_7, ↓sL_8, ↓sL_9, ↓sL_10, ↓rrf_si, ↓rrf_sg, ↓shO_si, ↓shO_sg, ↓shO_sr, ↓shA_si, ↓shA_sg, ↓shA_sr, ↓pAs_0, ↓pAs_i, ↓pAs_r, stk_n, stk_i, stk_l, stk_r, List.nil_append, List.cons_append, true_and, and_true, true_or, or_true, Nat.zero_add, dp_s, Nat.reduceAdd, le8_0, le8_1, le8_2, le8_3, le8_4, le8_5, le8_6, le8_7, le8_8, Classical.not_not, aT40, aT41, aT42, aT44, aT54, aT58, aT59, rT54, rT58, rT59, reduceIte, Nat.reduceEqDiff, qn_42, qn_44, true_implies, not_true_eq_false, not_false_eq_true, false_implies, le_T, nT (show i < 2147483648 by omega), nT (show min (p + n) 128 < 2147483648 by omega)]
      refine ⟨fun _ => hk M1 (hj.congr (fun j hj2 => ?_)) o, fun c => by omega⟩
      unfold mkA
      dsimp only
      rw [hnn]
      congr 1
      exact decide_eq_decide.mpr (by omega)
    | succ m ih =>
      intro i M1 hi hpi o hj
      have s1 : M1.sh b = some (0, 0) := by rw [o.1]; exact h.1.1.1
      have s2 : M1.rf b 10 = some (b + 275) := by rw [o.2.2.2.2.1]; exact h.1.2.1.2.2.2.2.1
      have s3 : M1.sh (b + 275) = some (42, 128) := by rw [o.1]; exact h.1.2.2.1.1
      refine vc_X 30 _ _ _ _ _ _ _ ?_
      simp only [↓v73_0, ↓v73_1, ↓v73_4, ↓v73_5, ↓v73_6, ↓v73_7, ↓v73_8, ↓v73_11, ↓v73_12, ↓v73_15, ↓v73_18, ↓v73_19, ↓v73_20, ↓v73_21, ↓v73_22, ↓v73_23, ↓v73_26, ↓v73_27, ↓v73_30, ↓v73_31, ↓v73_32, ↓v73_33, ↓v73_36, ↓v73_39, ↓qI_c, ↓qL_c, ↓qR_c, ↓pA_o, ↓qC_i, ↓qC_r, ↓oA_s, ↓gI_0, ↓gI_1, ↓gI_2, ↓gI_3, ↓gI_4, ↓gI_5, ↓gI_6, ↓gI_7, ↓gI_8, ↓gI_9, ↓gI_10, ↓gR_0, ↓gR_1, ↓gR_2, ↓gR_3, ↓gR_4, ↓gR_5, ↓gR_6, ↓gR_7, ↓gR_8, ↓gR_9, ↓gR_10, ↓sL_0, ↓sL_1, ↓sL_2, ↓sL_3, ↓sL_4, ↓sL_5, ↓sL_6, ↓sL_7, ↓sL_8, ↓sL_9, ↓sL_10, ↓rrf_si, ↓rrf_sg, ↓shO_si, ↓shO_sg, ↓shO_sr, ↓shA_si, ↓shA_sg, ↓shA_sr, ↓pAs_0, ↓pAs_i, ↓pAs_r, stk_n, stk_i, stk_l, stk_r, List.nil_append, List.cons_append, true_and, and_true, true_or, or_true, Nat.zero_add, dp_s, Nat.reduceAdd, le8_0, le8_1, le8_2, le8_3, le8_4, le8_5, le8_6, le8_7, le8_8, Classical.not_not, aT40, aT41, aT42, aT44, aT54, aT58, aT59, rT54, rT58, rT59, reduceIte, Nat.reduceEqDiff, qn_42, qn_44, true_implies, not_true_eq_false, not_false_eq_true, false_implies, le_T, nT (show i < 2147483648 by omega), nT (show min (p + n) 128 < 2147483648 by omega), ↓shO_of s1, ↓rrf_of s2, ↓shA_of s3, nb1, nC (show i < 2147483648 by omega), nI_1]
      refine ⟨fun c => by omega, fun _ => ⟨inB_n (by omega) (by omega), ?_⟩⟩
      refine ih (i + 1) _ (by omega) (by omega) (o.put (by simp)) (fun j hj2 => ?_)
      rw [si_it]
      by_cases hji : j = i
      · dsimp only
        rw [if_pos ⟨rfl, hji⟩, show decide (p ≤ j ∧ j < i + 1) = true from decide_eq_true (by omega), Bool.or_true]
        rfl
      · rw [if_neg (fun q => hji q.2), hj j hj2]
        dsimp only
        congr 2
        exact decide_eq_decide.mpr (by omega)
  refine xc ?_
  show X (d + 4) 73 0 [some (.inr (some b)), some (.inl (nI p)), none, none] [] M k
  refine vc_X 30 _ _ _ _ _ _ _ ?_
  simp only [↓v73_0, ↓v73_1, ↓v73_4, ↓v73_5, ↓v73_6, ↓v73_7, ↓v73_8, ↓v73_11, ↓v73_12, ↓v73_15, ↓v73_18, ↓v73_19, ↓v73_20, ↓v73_21, ↓v73_22, ↓v73_23, ↓v73_26, ↓v73_27, ↓v73_30, ↓v73_31, ↓v73_32, ↓v73_33, ↓v73_36, ↓v73_39, ↓qI_c, ↓qL_c, ↓qR_c, ↓pA_o, ↓qC_i, ↓qC_r, ↓oA_s, ↓gI_0, ↓gI_1, ↓gI_2, ↓gI_3, ↓gI_4, ↓gI_5, ↓gI_6, ↓gI_7, ↓gI_8, ↓gI_9, ↓gI_10, ↓gR_0, ↓gR_1, ↓gR_2, ↓gR_3, ↓gR_4, ↓gR_5, ↓gR_6, ↓gR_7, ↓gR_8, ↓gR_9, ↓gR_10, ↓sL_0, ↓sL_1, ↓sL_2, ↓sL_3, ↓sL_4, ↓sL_5, ↓sL_6, ↓sL_7, ↓sL_8, ↓sL_9, ↓sL_10, ↓rrf_si, ↓rrf_sg, ↓shO_si, ↓shO_sg, ↓shO_sr, ↓shA_si, ↓shA_sg, ↓shA_sr, ↓pAs_0, ↓pAs_i, ↓pAs_r, stk_n, stk_i, stk_l, stk_r, List.nil_append, List.cons_append, true_and, and_true, true_or, or_true, Nat.zero_add, dp_s, Nat.reduceAdd, le8_0, le8_1, le8_2, le8_3, le8_4, le8_5, le8_6, le8_7, le8_8, Classical.not_not, aT40, aT41, aT42, aT44, aT54, aT58, aT59, rT54, rT58, rT59, reduceIte, Nat.reduceEqDiff, qn_42, qn_44, true_implies, not_true_eq_false, not_false_eq_true, false_implies, le_T, T_0, nT (show p < 2147483648 by omega), ↓shO_of h.1.1.1]
  refine ⟨fun _ => ?_, fun c => by omega⟩
  refine k23 h.rd hw hp ⟨_, rfl, ?_⟩
  rw [hnn]
  have em : imin (nI (p + n)) 128 = nI (min (p + n) 128) := by
    unfold imin
    have q : (128 < nI (p + n)) = ((128 : Int) < ((p + n : Nat) : Int)) := by rw [lt_T, T_128, nT (by omega)]
    by_cases hc : (128 : Int32) < nI (p + n)
    · rw [if_pos hc]
      rw [q] at hc
      rw [show min (p + n) 128 = 128 by omega]
      rfl
    · rw [if_neg hc]
      rw [q] at hc
      rw [show min (p + n) 128 = p + n by omega]
  refine vc_X 30 _ _ _ _ _ _ _ ?_
  simp only [↓v73_0, ↓v73_1, ↓v73_4, ↓v73_5, ↓v73_6, ↓v73_7, ↓v73_8, ↓v73_11, ↓v73_12, ↓v73_15, ↓v73_18, ↓v73_19, ↓v73_20, ↓v73_21, ↓v73_22, ↓v73_23, ↓v73_26, ↓v73_27, ↓v73_30, ↓v73_31, ↓v73_32, ↓v73_33, ↓v73_36, ↓v73_39, ↓qI_c, ↓qL_c, ↓qR_c, ↓pA_o, ↓qC_i, ↓qC_r, ↓oA_s, ↓gI_0, ↓gI_1, ↓gI_2, ↓gI_3, ↓gI_4, ↓gI_5, ↓gI_6, ↓gI_7, ↓gI_8, ↓gI_9, ↓gI_10, ↓gR_0, ↓gR_1, ↓gR_2, ↓gR_3, ↓gR_4, ↓gR_5, ↓gR_6, ↓gR_7, ↓gR_8, ↓gR_9, ↓gR_10, ↓sL_0, ↓sL_1, ↓sL_2, ↓sL_3, ↓sL_4, ↓sL_5, ↓sL_6, ↓sL_7, ↓sL_8, ↓sL_9, ↓sL_10, ↓rrf_si, ↓rrf_sg, ↓shO_si, ↓shO_sg, ↓shO_sr, ↓shA_si, ↓shA_sg, ↓shA_sr, ↓pAs_0, ↓pAs_i, ↓pAs_r, stk_n, stk_i, stk_l, stk_r, List.nil_append, List.cons_append, true_and, and_true, true_or, or_true, Nat.zero_add, dp_s, Nat.reduceAdd, le8_0, le8_1, le8_2, le8_3, le8_4, le8_5, le8_6, le8_7, le8_8, Classical.not_not, aT40, aT41, aT42, aT44, aT54, aT58, aT59, rT54, rT58, rT59, reduceIte, Nat.reduceEqDiff, qn_42, qn_44, true_implies, not_true_eq_false, not_false_eq_true, false_implies, nI_add, em]
  by_cases hc : p ≤ min (p + n) 128
  · exact lop (min (p + n) 128 - p) p M (by omega) (Nat.le_refl _) On.rf_ (hm.congr (fun j hj => by rw [show decide (p ≤ j ∧ j < p) = false from decide_eq_false (by omega), Bool.or_false]))
  · exfalso
    omega
/-- the marks of the chunks of the first n keys -/
def mkK (dk : Nat → Nat) (ws : List WT) (f : Nat → Option Nat) : Nat → Nat → Bool
  | 0, _ => false
  | n + 1, j => mkK dk ws f n j || mkA dk ws (noG (f n)) j
theorem k73s {d : Nat} {M : Mm} {k : mQ} {b : Nat} {o : Option Nat} {mk : Nat → Bool} (h : CP M b D Q C L I T E F) (hw : okW Q.2.2) (hm : MkC M b mk) (ho : okO o) (hk : ∀ M', MkC M' b (fun j => mk j || mkA D.1 Q.2.2 (noG o) j) → On [b + 275] M M' → k none M') : XC (d + 5) 73 [.inr (some b), .inl (spI o)] M k := by
  have no : noG o = none → (spI o).toInt < 0 → XC (d + 5) 73 [.inr (some b), .inl (spI o)] M k := by
    intro e hx
    rw [e] at hk
    exact k73n hx (hk M (hm.congr (fun j _ => Bool.or_false _)) On.rf_)
  cases o with
  | none => exact no rfl (by decide)
  | some p =>
    by_cases hp : p = 255
    · refine no ?_ ?_
      · show (if p = 255 then none else some p) = none
        rw [if_pos hp]
      · show (if p = 255 then (-2 : Int32) else nI p).toInt < 0
        rw [if_pos hp]
        decide
    · have e1 : spI (some p) = nI p := by show (if p = 255 then (-2 : Int32) else nI p) = _; rw [if_neg hp]
      have e2 : noG (some p) = some p := by show (if p = 255 then none else some p) = _; rw [if_neg hp]
      rw [e1]
      rw [e2] at hk
      have := ho p rfl
      exact k73 h hw hm (by omega) hk
/-- the marks that tables and objects have: liveBlocks -/
def mkT (dk : Nat → Nat) (ws : List WT) (tb : TbT) : Nat → Nat → Bool
  | 0, _ => false
  | n + 1, j => mkT dk ws tb n j || mkA dk ws ((tb[n]?).map Prod.fst) j
def lvM (dk : Nat → Nat) (ws : List WT) (ch : Nat → Option Nat) (tb : TbT) (j : Nat) : Bool := mkK dk ws (fun k => plO ch tb (some k)) 48 j || mkT dk ws tb tb.length j
theorem noG_pl {o : Option Nat} : noG (noG o) = noG o := by
  cases o with
  | none => rfl
  | some p =>
    show noG (if p = 255 then none else some p) = if p = 255 then none else some p
    by_cases hp : p = 255
    · rw [if_pos hp]; rfl
    · rw [if_neg hp]
      show (if p = 255 then none else some p) = _
      rw [if_neg hp]
theorem k110 {d : Nat} {M : Mm} {k : mQ} {b e : Nat} (h : CP M b D Q C L I T E F) (hw : okW Q.2.2) (he : e < 8) (hk : ∀ M', CP M' b D Q C L I T E F → On [b + 275] M M' → k (some (.inl (nI (cnt (fun i => lvM D.1 Q.2.2 I.2.1 I.2.2 (16 * e + i)) 16)))) M') : XC (d + 6) 110 [.inr (some b), .inl (nI e)] M k := by
  have K : ∀ M', On [b + 275] M M' → CP M' b D Q C L I T E F := fun M' o => h.upZn o (by simp [PZ])
  have lop3 : ∀ (M1 : Mm), On [b + 275] M M1 → MkC M1 b (lvM D.1 Q.2.2 I.2.1 I.2.2) → ∀ (m i : Nat), i + m = 16 → X (d + 5) 110 65 [some (.inr (some b)), some (.inl (nI e)), some (.inl (nI (cnt (fun i => lvM D.1 Q.2.2 I.2.1 I.2.2 (16 * e + i)) i))), some (.inl (nI i))] [] M1 k := by
    intro M1 o hm m
    have h1 := K M1 o
    induction m with
    | zero =>
      intro i hi
      have e2 : i = 16 := by omega
      subst e2
      refine vc_X 30 _ _ _ _ _ _ _ ?_
      simp only [↓v110_0, ↓v110_1, ↓v110_4, ↓v110_5, ↓v110_6, ↓v110_7, ↓v110_9, ↓v110_12, ↓v110_13, ↓v110_14, ↓v110_17, ↓v110_18, ↓v110_21, ↓v110_24, ↓v110_27, ↓v110_30, ↓v110_31, ↓v110_32, ↓v110_33, ↓v110_34, ↓v110_37, ↓v110_40, ↓v110_43, ↓v110_44, ↓v110_45, ↓v110_48, ↓v110_49, ↓v110_52, ↓v110_55, ↓v110_58, ↓v110_61, ↓v110_62, ↓v110_63, ↓v110_64, ↓v110_65, ↓v110_66, ↓v110_68, ↓v110_71, ↓v110_72, ↓v110_75, ↓v110_76, ↓v110_78, ↓v110_79, ↓v110_80, ↓v110_81, ↓v110_82, ↓v110_85, ↓v110_88, ↓v110_91, ↓v110_94, ↓v110_95, ↓qI_c, ↓qL_c, ↓qR_c, ↓pA_o, ↓qC_i, ↓qC_r, ↓oA_s, ↓gI_0, ↓gI_1, ↓gI_2, ↓gI_3, ↓gI_4, ↓gI_5, ↓gI_6, ↓gI_7, ↓gI_8, ↓gI_9, ↓gI_10, ↓gR_0, ↓gR_1, ↓gR_2, ↓gR_3, ↓gR_4, ↓gR_5, ↓gR_6, ↓gR_7, ↓gR_8, ↓gR_9, ↓gR_10, ↓sL_0, ↓sL_1, ↓sL_2, ↓sL_3, ↓sL_4, ↓sL_5, ↓sL_6, ↓sL_7, ↓sL_8, ↓sL_9, ↓sL_10, ↓rrf_si, ↓rrf_sg, ↓shO_si, ↓shO_sg, ↓shO_sr, ↓shA_si, ↓shA_sg, ↓shA_sr, ↓pAs_0, ↓pAs_i, ↓pAs_r, stk_n, stk_i, stk_l, stk_r, List.nil_append, List.cons_append, true_and, and_true, true_or, or_true, Nat.zero_add, dp_s, Nat.reduceAdd, le8_0, le8_1, le8_2, le8_3, le8_4, le8_5, le8_6, le8_7, le8_8, Classical.not_not, aT40, aT41, aT42, aT44, aT54, aT58, aT59, rT54, rT58, rT59, reduceIte, Nat.reduceEqDiff, qn_42, qn_44, true_implies, not_true_eq_false, not_false_eq_true, false_implies, le_T, T_16, nT (show 16 < 2147483648 by omega)]
      exact ⟨fun _ => hk M1 h1 o, fun c => absurd (by decide) c⟩
    | succ m ih =>
      intro i hi
      have e3 : nI e * 16 + nI i = nI (16 * e + i) := by rw [n_16, pk_mul, nI_add]; congr 1; omega
      have hv := hm (16 * e + i) (by omega)
      have ih1 := ih (i + 1) (by omega)
      have e1 : cnt (fun i => lvM D.1 Q.2.2 I.2.1 I.2.2 (16 * e + i)) (i + 1) = cnt (fun i => lvM D.1 Q.2.2 I.2.1 I.2.2 (16 * e + i)) i + (if lvM D.1 Q.2.2 I.2.1 I.2.2 (16 * e + i) then 1 else 0) := rfl
      rw [e1] at ih1
      refine vc_X 30 _ _ _ _ _ _ _ ?_
      simp only [↓v110_0, ↓v110_1, ↓v110_4, ↓v110_5, ↓v110_6, ↓v110_7, ↓v110_9, ↓v110_12, ↓v110_13, ↓v110_14, ↓v110_17, ↓v110_18, ↓v110_21, ↓v110_24, ↓v110_27, ↓v110_30, ↓v110_31, ↓v110_32, ↓v110_33, ↓v110_34, ↓v110_37, ↓v110_40, ↓v110_43, ↓v110_44, ↓v110_45, ↓v110_48, ↓v110_49, ↓v110_52, ↓v110_55, ↓v110_58, ↓v110_61, ↓v110_62, ↓v110_63, ↓v110_64, ↓v110_65, ↓v110_66, ↓v110_68, ↓v110_71, ↓v110_72, ↓v110_75, ↓v110_76, ↓v110_78, ↓v110_79, ↓v110_80, ↓v110_81, ↓v110_82, ↓v110_85, ↓v110_88, ↓v110_91, ↓v110_94, ↓v110_95, ↓qI_c, ↓qL_c, ↓qR_c, ↓pA_o, ↓qC_i, ↓qC_r, ↓oA_s, ↓gI_0, ↓gI_1, ↓gI_2, ↓gI_3, ↓gI_4, ↓gI_5, ↓gI_6, ↓gI_7, ↓gI_8, ↓gI_9, ↓gI_10, ↓gR_0, ↓gR_1, ↓gR_2, ↓gR_3, ↓gR_4, ↓gR_5, ↓gR_6, ↓gR_7, ↓gR_8, ↓gR_9, ↓gR_10, ↓sL_0, ↓sL_1, ↓sL_2, ↓sL_3, ↓sL_4, ↓sL_5, ↓sL_6, ↓sL_7, ↓sL_8, ↓sL_9, ↓sL_10, ↓rrf_si, ↓rrf_sg, ↓shO_si, ↓shO_sg, ↓shO_sr, ↓shA_si, ↓shA_sg, ↓shA_sr, ↓pAs_0, ↓pAs_i, ↓pAs_r, stk_n, stk_i, stk_l, stk_r, List.nil_append, List.cons_append, true_and, and_true, true_or, or_true, Nat.zero_add, dp_s, Nat.reduceAdd, le8_0, le8_1, le8_2, le8_3, le8_4, le8_5, le8_6, le8_7, le8_8, Classical.not_not, aT40, aT41, aT42, aT44, aT54, aT58, aT59, rT54, rT58, rT59, reduceIte, Nat.reduceEqDiff, qn_42, qn_44, true_implies, not_true_eq_false, not_false_eq_true, false_implies, le_T, T_16, nT (show i < 2147483648 by omega), ↓shO_of h1.1.1.1, ↓rrf_of h1.1.2.1.2.2.2.2.1, ↓shA_of h1.1.2.2.1.1, e3, nC (show 16 * e + i < 2147483648 by omega), hv, bI0, nI_1]
      refine ⟨fun c => by omega, fun _ => ⟨inB_n (by omega) (by omega), fun c => ?_, fun c => ?_⟩⟩
      · rw [c] at ih1
        exact ih1
      · rw [show lvM D.1 Q.2.2 I.2.1 I.2.2 (16 * e + i) = true by simpa using c] at ih1
        exact ih1
  have lop2 : ∀ (m t : Nat) (M1 : Mm), t + m = I.2.2.length → On [b + 275] M M1 → MkC M1 b (fun j => mkK D.1 Q.2.2 (fun k => plO I.2.1 I.2.2 (some k)) 48 j || mkT D.1 Q.2.2 I.2.2 t j) → ∀ z, X (d + 5) 110 32 [some (.inr (some b)), some (.inl (nI e)), some (.inl (nI t)), z] [] M1 k := by
    intro m
    induction m with
    | zero =>
      intro t M1 ht o hm z
      have h1 := K M1 o
      have hx := h1.2.2.2.2.2.1
      have e2 : t = I.2.2.length := by omega
      have hl := hx.2.2.2.1
      refine vc_X 30 _ _ _ _ _ _ _ ?_
      simp only [↓v110_0, ↓v110_1, ↓v110_4, ↓v110_5, ↓v110_6, ↓v110_7, ↓v110_9, ↓v110_12, ↓v110_13, ↓v110_14, ↓v110_17, ↓v110_18, ↓v110_21, ↓v110_24, ↓v110_27, ↓v110_30, ↓v110_31, ↓v110_32, ↓v110_33, ↓v110_34, ↓v110_37, ↓v110_40, ↓v110_43, ↓v110_44, ↓v110_45, ↓v110_48, ↓v110_49, ↓v110_52, ↓v110_55, ↓v110_58, ↓v110_61, ↓v110_62, ↓v110_63, ↓v110_64, ↓v110_65, ↓v110_66, ↓v110_68, ↓v110_71, ↓v110_72, ↓v110_75, ↓v110_76, ↓v110_78, ↓v110_79, ↓v110_80, ↓v110_81, ↓v110_82, ↓v110_85, ↓v110_88, ↓v110_91, ↓v110_94, ↓v110_95, ↓qI_c, ↓qL_c, ↓qR_c, ↓pA_o, ↓qC_i, ↓qC_r, ↓oA_s, ↓gI_0, ↓gI_1, ↓gI_2, ↓gI_3, ↓gI_4, ↓gI_5, ↓gI_6, ↓gI_7, ↓gI_8, ↓gI_9, ↓gI_10, ↓gR_0, ↓gR_1, ↓gR_2, ↓gR_3, ↓gR_4, ↓gR_5, ↓gR_6, ↓gR_7, ↓gR_8, ↓gR_9, ↓gR_10, ↓sL_0, ↓sL_1, ↓sL_2, ↓sL_3, ↓sL_4, ↓sL_5, ↓sL_6, ↓sL_7, ↓sL_8, ↓sL_9, ↓sL_10, ↓rrf_si, ↓rrf_sg, ↓shO_si, ↓shO_sg, ↓shO_sr, ↓shA_si, ↓shA_sg, ↓shA_sr, ↓pAs_0, ↓pAs_i, ↓pAs_r, stk_n, stk_i, stk_l, stk_r, List.nil_append, List.cons_append, true_and, and_true, true_or, or_true, Nat.zero_add, dp_s, Nat.reduceAdd, le8_0, le8_1, le8_2, le8_3, le8_4, le8_5, le8_6, le8_7, le8_8, Classical.not_not, aT40, aT41, aT42, aT44, aT54, aT58, aT59, rT54, rT58, rT59, reduceIte, Nat.reduceEqDiff, qn_42, qn_44, true_implies, not_true_eq_false, not_false_eq_true, false_implies, le_T, ↓shO_of h1.1.1.1, ↓rrf_of h1.1.1.2.2.2.2.2.2, ↓shO_of hx.1.1, hx.2.2.1, nT (show t < 2147483648 by omega), nT (show I.2.2.length < 2147483648 by omega)]
      refine ⟨fun _ => ?_, fun c => by omega⟩
      refine lop3 M1 o (hm.congr (fun j hj => ?_)) 16 0 (by omega)
      unfold lvM
      rw [e2]
    | succ m ih =>
      intro t M1 ht o hm z
      have h1 := K M1 o
      have hx := h1.2.2.2.2.2.1
      have hl := hx.2.2.2.1
      have ht2 : t < I.2.2.length := by omega
      have hz : I.2.2[t]? = some I.2.2[t] := List.getElem?_eq_getElem ht2
      refine vc_X 30 _ _ _ _ _ _ _ ?_
      simp only [↓v110_0, ↓v110_1, ↓v110_4, ↓v110_5, ↓v110_6, ↓v110_7, ↓v110_9, ↓v110_12, ↓v110_13, ↓v110_14, ↓v110_17, ↓v110_18, ↓v110_21, ↓v110_24, ↓v110_27, ↓v110_30, ↓v110_31, ↓v110_32, ↓v110_33, ↓v110_34, ↓v110_37, ↓v110_40, ↓v110_43, ↓v110_44, ↓v110_45, ↓v110_48, ↓v110_49, ↓v110_52, ↓v110_55, ↓v110_58, ↓v110_61, ↓v110_62, ↓v110_63, ↓v110_64, ↓v110_65, ↓v110_66, ↓v110_68, ↓v110_71, ↓v110_72, ↓v110_75, ↓v110_76, ↓v110_78, ↓v110_79, ↓v110_80, ↓v110_81, ↓v110_82, ↓v110_85, ↓v110_88, ↓v110_91, ↓v110_94, ↓v110_95, ↓qI_c, ↓qL_c, ↓qR_c, ↓pA_o, ↓qC_i, ↓qC_r, ↓oA_s, ↓gI_0, ↓gI_1, ↓gI_2, ↓gI_3, ↓gI_4, ↓gI_5, ↓gI_6, ↓gI_7, ↓gI_8, ↓gI_9, ↓gI_10, ↓gR_0, ↓gR_1, ↓gR_2, ↓gR_3, ↓gR_4, ↓gR_5, ↓gR_6, ↓gR_7, ↓gR_8, ↓gR_9, ↓gR_10, ↓sL_0, ↓sL_1, ↓sL_2, ↓sL_3, ↓sL_4, ↓sL_5, ↓sL_6, ↓sL_7, ↓sL_8, ↓sL_9, ↓sL_10, ↓rrf_si, ↓rrf_sg, ↓shO_si, ↓shO_sg, ↓shO_sr, ↓shA_si, ↓shA_sg, ↓shA_sr, ↓pAs_0, ↓pAs_i, ↓pAs_r, stk_n, stk_i, stk_l, stk_r, List.nil_append, List.cons_append, true_and, and_true, true_or, or_true, Nat.zero_add, dp_s, Nat.reduceAdd, le8_0, le8_1, le8_2, le8_3, le8_4, le8_5, le8_6, le8_7, le8_8, Classical.not_not, aT40, aT41, aT42, aT44, aT54, aT58, aT59, rT54, rT58, rT59, reduceIte, Nat.reduceEqDiff, qn_42, qn_44, true_implies, not_true_eq_false, not_false_eq_true, false_implies, le_T, ↓shO_of h1.1.1.1, ↓rrf_of h1.1.1.2.2.2.2.2.2, ↓shO_of hx.1.1, hx.2.2.1, nT (show t < 2147483648 by omega), nT (show I.2.2.length < 2147483648 by omega)]
      refine ⟨fun c => by omega, fun _ => k80 hx hz ⟨_, rfl, ?_⟩⟩
      refine vc_X 30 _ _ _ _ _ _ _ ?_
      simp only [↓v110_0, ↓v110_1, ↓v110_4, ↓v110_5, ↓v110_6, ↓v110_7, ↓v110_9, ↓v110_12, ↓v110_13, ↓v110_14, ↓v110_17, ↓v110_18, ↓v110_21, ↓v110_24, ↓v110_27, ↓v110_30, ↓v110_31, ↓v110_32, ↓v110_33, ↓v110_34, ↓v110_37, ↓v110_40, ↓v110_43, ↓v110_44, ↓v110_45, ↓v110_48, ↓v110_49, ↓v110_52, ↓v110_55, ↓v110_58, ↓v110_61, ↓v110_62, ↓v110_63, ↓v110_64, ↓v110_65, ↓v110_66, ↓v110_68, ↓v110_71, ↓v110_72, ↓v110_75, ↓v110_76, ↓v110_78, ↓v110_79, ↓v110_80, ↓v110_81, ↓v110_82, ↓v110_85, ↓v110_88, ↓v110_91, ↓v110_94, ↓v110_95, ↓qI_c, ↓qL_c, ↓qR_c, ↓pA_o, ↓qC_i, ↓qC_r, ↓oA_s, ↓gI_0, ↓gI_1, ↓gI_2, ↓gI_3, ↓gI_4, ↓gI_5, ↓gI_6, ↓gI_7, ↓gI_8, ↓gI_9, ↓gI_10, ↓gR_0, ↓gR_1, ↓gR_2, ↓gR_3, ↓gR_4, ↓gR_5, ↓gR_6, ↓gR_7, ↓gR_8, ↓gR_9, ↓gR_10, ↓sL_0, ↓sL_1, ↓sL_2, ↓sL_3, ↓sL_4, ↓sL_5, ↓sL_6, ↓sL_7, ↓sL_8, ↓sL_9, ↓sL_10, ↓rrf_si, ↓rrf_sg, ↓shO_si, ↓shO_sg, ↓shO_sr, ↓shA_si, ↓shA_sg, ↓shA_sr, ↓pAs_0, ↓pAs_i, ↓pAs_r, stk_n, stk_i, stk_l, stk_r, List.nil_append, List.cons_append, true_and, and_true, true_or, or_true, Nat.zero_add, dp_s, Nat.reduceAdd, le8_0, le8_1, le8_2, le8_3, le8_4, le8_5, le8_6, le8_7, le8_8, Classical.not_not, aT40, aT41, aT42, aT44, aT54, aT58, aT59, rT54, rT58, rT59, reduceIte, Nat.reduceEqDiff, qn_42, qn_44, true_implies, not_true_eq_false, not_false_eq_true, false_implies, ↓shO_of h1.1.1.1]
      refine k73 h1 hw hm (hx.2.2.2.2 t _ hz).2 (fun M2 m2 o2 => ⟨rfl, ?_⟩)
      refine vc_X 30 _ _ _ _ _ _ _ ?_
      simp only [↓v110_0, ↓v110_1, ↓v110_4, ↓v110_5, ↓v110_6, ↓v110_7, ↓v110_9, ↓v110_12, ↓v110_13, ↓v110_14, ↓v110_17, ↓v110_18, ↓v110_21, ↓v110_24, ↓v110_27, ↓v110_30, ↓v110_31, ↓v110_32, ↓v110_33, ↓v110_34, ↓v110_37, ↓v110_40, ↓v110_43, ↓v110_44, ↓v110_45, ↓v110_48, ↓v110_49, ↓v110_52, ↓v110_55, ↓v110_58, ↓v110_61, ↓v110_62, ↓v110_63, ↓v110_64, ↓v110_65, ↓v110_66, ↓v110_68, ↓v110_71, ↓v110_72, ↓v110_75, ↓v110_76, ↓v110_78, ↓v110_79, ↓v110_80, ↓v110_81, ↓v110_82, ↓v110_85, ↓v110_88, ↓v110_91, ↓v110_94, ↓v110_95, ↓qI_c, ↓qL_c, ↓qR_c, ↓pA_o, ↓qC_i, ↓qC_r, ↓oA_s, ↓gI_0, ↓gI_1, ↓gI_2, ↓gI_3, ↓gI_4, ↓gI_5, ↓gI_6, ↓gI_7, ↓gI_8, ↓gI_9, ↓gI_10, ↓gR_0, ↓gR_1, ↓gR_2, ↓gR_3, ↓gR_4, ↓gR_5, ↓gR_6, ↓gR_7, ↓gR_8, ↓gR_9, ↓gR_10, ↓sL_0, ↓sL_1, ↓sL_2, ↓sL_3, ↓sL_4, ↓sL_5, ↓sL_6, ↓sL_7, ↓sL_8, ↓sL_9, ↓sL_10, ↓rrf_si, ↓rrf_sg, ↓shO_si, ↓shO_sg, ↓shO_sr, ↓shA_si, ↓shA_sg, ↓shA_sr, ↓pAs_0, ↓pAs_i, ↓pAs_r, stk_n, stk_i, stk_l, stk_r, List.nil_append, List.cons_append, true_and, and_true, true_or, or_true, Nat.zero_add, dp_s, Nat.reduceAdd, le8_0, le8_1, le8_2, le8_3, le8_4, le8_5, le8_6, le8_7, le8_8, Classical.not_not, aT40, aT41, aT42, aT44, aT54, aT58, aT59, rT54, rT58, rT59, reduceIte, Nat.reduceEqDiff, qn_42, qn_44, true_implies, not_true_eq_false, not_false_eq_true, false_implies, nI_1]
      refine ih (t + 1) M2 (by omega) (o.trans o2 (fun _ x => x)) (m2.congr (fun j hj => ?_)) _
      show (_ || (mkT D.1 Q.2.2 I.2.2 t j || mkA D.1 Q.2.2 ((I.2.2[t]?).map Prod.fst) j)) = _
      rw [hz, Bool.or_assoc]
      rfl
  have lop1 : ∀ (m i : Nat) (M1 : Mm), i + m = 48 → On [b + 275] M M1 → MkC M1 b (mkK D.1 Q.2.2 (fun k => plO I.2.1 I.2.2 (some k)) i) → ∀ z, X (d + 5) 110 6 [some (.inr (some b)), some (.inl (nI e)), some (.inl (nI i)), z] [] M1 k := by
    intro m
    induction m with
    | zero =>
      intro i M1 hi o hm z
      have e2 : i = 48 := by omega
      subst e2
      refine vc_X 30 _ _ _ _ _ _ _ ?_
      simp only [↓v110_0, ↓v110_1, ↓v110_4, ↓v110_5, ↓v110_6, ↓v110_7, ↓v110_9, ↓v110_12, ↓v110_13, ↓v110_14, ↓v110_17, ↓v110_18, ↓v110_21, ↓v110_24, ↓v110_27, ↓v110_30, ↓v110_31, ↓v110_32, ↓v110_33, ↓v110_34, ↓v110_37, ↓v110_40, ↓v110_43, ↓v110_44, ↓v110_45, ↓v110_48, ↓v110_49, ↓v110_52, ↓v110_55, ↓v110_58, ↓v110_61, ↓v110_62, ↓v110_63, ↓v110_64, ↓v110_65, ↓v110_66, ↓v110_68, ↓v110_71, ↓v110_72, ↓v110_75, ↓v110_76, ↓v110_78, ↓v110_79, ↓v110_80, ↓v110_81, ↓v110_82, ↓v110_85, ↓v110_88, ↓v110_91, ↓v110_94, ↓v110_95, ↓qI_c, ↓qL_c, ↓qR_c, ↓pA_o, ↓qC_i, ↓qC_r, ↓oA_s, ↓gI_0, ↓gI_1, ↓gI_2, ↓gI_3, ↓gI_4, ↓gI_5, ↓gI_6, ↓gI_7, ↓gI_8, ↓gI_9, ↓gI_10, ↓gR_0, ↓gR_1, ↓gR_2, ↓gR_3, ↓gR_4, ↓gR_5, ↓gR_6, ↓gR_7, ↓gR_8, ↓gR_9, ↓gR_10, ↓sL_0, ↓sL_1, ↓sL_2, ↓sL_3, ↓sL_4, ↓sL_5, ↓sL_6, ↓sL_7, ↓sL_8, ↓sL_9, ↓sL_10, ↓rrf_si, ↓rrf_sg, ↓shO_si, ↓shO_sg, ↓shO_sr, ↓shA_si, ↓shA_sg, ↓shA_sr, ↓pAs_0, ↓pAs_i, ↓pAs_r, stk_n, stk_i, stk_l, stk_r, List.nil_append, List.cons_append, true_and, and_true, true_or, or_true, Nat.zero_add, dp_s, Nat.reduceAdd, le8_0, le8_1, le8_2, le8_3, le8_4, le8_5, le8_6, le8_7, le8_8, Classical.not_not, aT40, aT41, aT42, aT44, aT54, aT58, aT59, rT54, rT58, rT59, reduceIte, Nat.reduceEqDiff, qn_42, qn_44, true_implies, not_true_eq_false, not_false_eq_true, false_implies, le_T, T_48, nT (show 48 < 2147483648 by omega)]
      refine ⟨fun _ => ?_, fun c => absurd (by decide) c⟩
      exact lop2 I.2.2.length 0 M1 (by omega) o (hm.congr (fun j _ => Bool.or_false _)) _
    | succ m ih =>
      intro i M1 hi o hm z
      have h1 := K M1 o
      have hx := h1.2.2.2.2.2.1
      refine vc_X 30 _ _ _ _ _ _ _ ?_
      simp only [↓v110_0, ↓v110_1, ↓v110_4, ↓v110_5, ↓v110_6, ↓v110_7, ↓v110_9, ↓v110_12, ↓v110_13, ↓v110_14, ↓v110_17, ↓v110_18, ↓v110_21, ↓v110_24, ↓v110_27, ↓v110_30, ↓v110_31, ↓v110_32, ↓v110_33, ↓v110_34, ↓v110_37, ↓v110_40, ↓v110_43, ↓v110_44, ↓v110_45, ↓v110_48, ↓v110_49, ↓v110_52, ↓v110_55, ↓v110_58, ↓v110_61, ↓v110_62, ↓v110_63, ↓v110_64, ↓v110_65, ↓v110_66, ↓v110_68, ↓v110_71, ↓v110_72, ↓v110_75, ↓v110_76, ↓v110_78, ↓v110_79, ↓v110_80, ↓v110_81, ↓v110_82, ↓v110_85, ↓v110_88, ↓v110_91, ↓v110_94, ↓v110_95, ↓qI_c, ↓qL_c, ↓qR_c, ↓pA_o, ↓qC_i, ↓qC_r, ↓oA_s, ↓gI_0, ↓gI_1, ↓gI_2, ↓gI_3, ↓gI_4, ↓gI_5, ↓gI_6, ↓gI_7, ↓gI_8, ↓gI_9, ↓gI_10, ↓gR_0, ↓gR_1, ↓gR_2, ↓gR_3, ↓gR_4, ↓gR_5, ↓gR_6, ↓gR_7, ↓gR_8, ↓gR_9, ↓gR_10, ↓sL_0, ↓sL_1, ↓sL_2, ↓sL_3, ↓sL_4, ↓sL_5, ↓sL_6, ↓sL_7, ↓sL_8, ↓sL_9, ↓sL_10, ↓rrf_si, ↓rrf_sg, ↓shO_si, ↓shO_sg, ↓shO_sr, ↓shA_si, ↓shA_sg, ↓shA_sr, ↓pAs_0, ↓pAs_i, ↓pAs_r, stk_n, stk_i, stk_l, stk_r, List.nil_append, List.cons_append, true_and, and_true, true_or, or_true, Nat.zero_add, dp_s, Nat.reduceAdd, le8_0, le8_1, le8_2, le8_3, le8_4, le8_5, le8_6, le8_7, le8_8, Classical.not_not, aT40, aT41, aT42, aT44, aT54, aT58, aT59, rT54, rT58, rT59, reduceIte, Nat.reduceEqDiff, qn_42, qn_44, true_implies, not_true_eq_false, not_false_eq_true, false_implies, le_T, T_48, nT (show i < 2147483648 by omega), ↓shO_of h1.1.1.1, ↓rrf_of h1.1.1.2.2.2.2.2.2, ↓shO_of hx.1.1]
      refine ⟨fun c => by omega, fun _ => k60 hx ⟨_, rfl, ?_⟩⟩
      rw [keyOf_n (by omega), spI_oI (fun p hp => plO_lt hx (show i < 48 by omega) hp)]
      refine vc_X 30 _ _ _ _ _ _ _ ?_
      simp only [↓v110_0, ↓v110_1, ↓v110_4, ↓v110_5, ↓v110_6, ↓v110_7, ↓v110_9, ↓v110_12, ↓v110_13, ↓v110_14, ↓v110_17, ↓v110_18, ↓v110_21, ↓v110_24, ↓v110_27, ↓v110_30, ↓v110_31, ↓v110_32, ↓v110_33, ↓v110_34, ↓v110_37, ↓v110_40, ↓v110_43, ↓v110_44, ↓v110_45, ↓v110_48, ↓v110_49, ↓v110_52, ↓v110_55, ↓v110_58, ↓v110_61, ↓v110_62, ↓v110_63, ↓v110_64, ↓v110_65, ↓v110_66, ↓v110_68, ↓v110_71, ↓v110_72, ↓v110_75, ↓v110_76, ↓v110_78, ↓v110_79, ↓v110_80, ↓v110_81, ↓v110_82, ↓v110_85, ↓v110_88, ↓v110_91, ↓v110_94, ↓v110_95, ↓qI_c, ↓qL_c, ↓qR_c, ↓pA_o, ↓qC_i, ↓qC_r, ↓oA_s, ↓gI_0, ↓gI_1, ↓gI_2, ↓gI_3, ↓gI_4, ↓gI_5, ↓gI_6, ↓gI_7, ↓gI_8, ↓gI_9, ↓gI_10, ↓gR_0, ↓gR_1, ↓gR_2, ↓gR_3, ↓gR_4, ↓gR_5, ↓gR_6, ↓gR_7, ↓gR_8, ↓gR_9, ↓gR_10, ↓sL_0, ↓sL_1, ↓sL_2, ↓sL_3, ↓sL_4, ↓sL_5, ↓sL_6, ↓sL_7, ↓sL_8, ↓sL_9, ↓sL_10, ↓rrf_si, ↓rrf_sg, ↓shO_si, ↓shO_sg, ↓shO_sr, ↓shA_si, ↓shA_sg, ↓shA_sr, ↓pAs_0, ↓pAs_i, ↓pAs_r, stk_n, stk_i, stk_l, stk_r, List.nil_append, List.cons_append, true_and, and_true, true_or, or_true, Nat.zero_add, dp_s, Nat.reduceAdd, le8_0, le8_1, le8_2, le8_3, le8_4, le8_5, le8_6, le8_7, le8_8, Classical.not_not, aT40, aT41, aT42, aT44, aT54, aT58, aT59, rT54, rT58, rT59, reduceIte, Nat.reduceEqDiff, qn_42, qn_44, true_implies, not_true_eq_false, not_false_eq_true, false_implies, ↓shO_of h1.1.1.1]
      refine k73s h1 hw hm (fun p hp => Or.inr (plO_lt hx (show i < 48 by omega) hp)) (fun M2 m2 o2 => ⟨rfl, ?_⟩)
      refine vc_X 30 _ _ _ _ _ _ _ ?_
      simp only [↓v110_0, ↓v110_1, ↓v110_4, ↓v110_5, ↓v110_6, ↓v110_7, ↓v110_9, ↓v110_12, ↓v110_13, ↓v110_14, ↓v110_17, ↓v110_18, ↓v110_21, ↓v110_24, ↓v110_27, ↓v110_30, ↓v110_31, ↓v110_32, ↓v110_33, ↓v110_34, ↓v110_37, ↓v110_40, ↓v110_43, ↓v110_44, ↓v110_45, ↓v110_48, ↓v110_49, ↓v110_52, ↓v110_55, ↓v110_58, ↓v110_61, ↓v110_62, ↓v110_63, ↓v110_64, ↓v110_65, ↓v110_66, ↓v110_68, ↓v110_71, ↓v110_72, ↓v110_75, ↓v110_76, ↓v110_78, ↓v110_79, ↓v110_80, ↓v110_81, ↓v110_82, ↓v110_85, ↓v110_88, ↓v110_91, ↓v110_94, ↓v110_95, ↓qI_c, ↓qL_c, ↓qR_c, ↓pA_o, ↓qC_i, ↓qC_r, ↓oA_s, ↓gI_0, ↓gI_1, ↓gI_2, ↓gI_3, ↓gI_4, ↓gI_5, ↓gI_6, ↓gI_7, ↓gI_8, ↓gI_9, ↓gI_10, ↓gR_0, ↓gR_1, ↓gR_2, ↓gR_3, ↓gR_4, ↓gR_5, ↓gR_6, ↓gR_7, ↓gR_8, ↓gR_9, ↓gR_10, ↓sL_0, ↓sL_1, ↓sL_2, ↓sL_3, ↓sL_4, ↓sL_5, ↓sL_6, ↓sL_7, ↓sL_8, ↓sL_9, ↓sL_10, ↓rrf_si, ↓rrf_sg, ↓shO_si, ↓shO_sg, ↓shO_sr, ↓shA_si, ↓shA_sg, ↓shA_sr, ↓pAs_0, ↓pAs_i, ↓pAs_r, stk_n, stk_i, stk_l, stk_r, List.nil_append, List.cons_append, true_and, and_true, true_or, or_true, Nat.zero_add, dp_s, Nat.reduceAdd, le8_0, le8_1, le8_2, le8_3, le8_4, le8_5, le8_6, le8_7, le8_8, Classical.not_not, aT40, aT41, aT42, aT44, aT54, aT58, aT59, rT54, rT58, rT59, reduceIte, Nat.reduceEqDiff, qn_42, qn_44, true_implies, not_true_eq_false, not_false_eq_true, false_implies, nI_1]
      exact ih (i + 1) M2 (by omega) (o.trans o2 (fun _ x => x)) m2 _
  refine xc ?_
  show X (d + 5) 110 0 [some (.inr (some b)), some (.inl (nI e)), none, none] [] M k
  refine vc_X 30 _ _ _ _ _ _ _ ?_
  simp only [↓v110_0, ↓v110_1, ↓v110_4, ↓v110_5, ↓v110_6, ↓v110_7, ↓v110_9, ↓v110_12, ↓v110_13, ↓v110_14, ↓v110_17, ↓v110_18, ↓v110_21, ↓v110_24, ↓v110_27, ↓v110_30, ↓v110_31, ↓v110_32, ↓v110_33, ↓v110_34, ↓v110_37, ↓v110_40, ↓v110_43, ↓v110_44, ↓v110_45, ↓v110_48, ↓v110_49, ↓v110_52, ↓v110_55, ↓v110_58, ↓v110_61, ↓v110_62, ↓v110_63, ↓v110_64, ↓v110_65, ↓v110_66, ↓v110_68, ↓v110_71, ↓v110_72, ↓v110_75, ↓v110_76, ↓v110_78, ↓v110_79, ↓v110_80, ↓v110_81, ↓v110_82, ↓v110_85, ↓v110_88, ↓v110_91, ↓v110_94, ↓v110_95, ↓qI_c, ↓qL_c, ↓qR_c, ↓pA_o, ↓qC_i, ↓qC_r, ↓oA_s, ↓gI_0, ↓gI_1, ↓gI_2, ↓gI_3, ↓gI_4, ↓gI_5, ↓gI_6, ↓gI_7, ↓gI_8, ↓gI_9, ↓gI_10, ↓gR_0, ↓gR_1, ↓gR_2, ↓gR_3, ↓gR_4, ↓gR_5, ↓gR_6, ↓gR_7, ↓gR_8, ↓gR_9, ↓gR_10, ↓sL_0, ↓sL_1, ↓sL_2, ↓sL_3, ↓sL_4, ↓sL_5, ↓sL_6, ↓sL_7, ↓sL_8, ↓sL_9, ↓sL_10, ↓rrf_si, ↓rrf_sg, ↓shO_si, ↓shO_sg, ↓shO_sr, ↓shA_si, ↓shA_sg, ↓shA_sr, ↓pAs_0, ↓pAs_i, ↓pAs_r, stk_n, stk_i, stk_l, stk_r, List.nil_append, List.cons_append, true_and, and_true, true_or, or_true, Nat.zero_add, dp_s, Nat.reduceAdd, le8_0, le8_1, le8_2, le8_3, le8_4, le8_5, le8_6, le8_7, le8_8, Classical.not_not, aT40, aT41, aT42, aT44, aT54, aT58, aT59, rT54, rT58, rT59, reduceIte, Nat.reduceEqDiff, qn_42, qn_44, true_implies, not_true_eq_false, not_false_eq_true, false_implies, ↓shO_of h.1.1.1]
  refine k72 h (fun M1 m1 o1 => ⟨rfl, ?_⟩)
  refine vc_X 30 _ _ _ _ _ _ _ ?_
  simp only [↓v110_0, ↓v110_1, ↓v110_4, ↓v110_5, ↓v110_6, ↓v110_7, ↓v110_9, ↓v110_12, ↓v110_13, ↓v110_14, ↓v110_17, ↓v110_18, ↓v110_21, ↓v110_24, ↓v110_27, ↓v110_30, ↓v110_31, ↓v110_32, ↓v110_33, ↓v110_34, ↓v110_37, ↓v110_40, ↓v110_43, ↓v110_44, ↓v110_45, ↓v110_48, ↓v110_49, ↓v110_52, ↓v110_55, ↓v110_58, ↓v110_61, ↓v110_62, ↓v110_63, ↓v110_64, ↓v110_65, ↓v110_66, ↓v110_68, ↓v110_71, ↓v110_72, ↓v110_75, ↓v110_76, ↓v110_78, ↓v110_79, ↓v110_80, ↓v110_81, ↓v110_82, ↓v110_85, ↓v110_88, ↓v110_91, ↓v110_94, ↓v110_95, ↓qI_c, ↓qL_c, ↓qR_c, ↓pA_o, ↓qC_i, ↓qC_r, ↓oA_s, ↓gI_0, ↓gI_1, ↓gI_2, ↓gI_3, ↓gI_4, ↓gI_5, ↓gI_6, ↓gI_7, ↓gI_8, ↓gI_9, ↓gI_10, ↓gR_0, ↓gR_1, ↓gR_2, ↓gR_3, ↓gR_4, ↓gR_5, ↓gR_6, ↓gR_7, ↓gR_8, ↓gR_9, ↓gR_10, ↓sL_0, ↓sL_1, ↓sL_2, ↓sL_3, ↓sL_4, ↓sL_5, ↓sL_6, ↓sL_7, ↓sL_8, ↓sL_9, ↓sL_10, ↓rrf_si, ↓rrf_sg, ↓shO_si, ↓shO_sg, ↓shO_sr, ↓shA_si, ↓shA_sg, ↓shA_sr, ↓pAs_0, ↓pAs_i, ↓pAs_r, stk_n, stk_i, stk_l, stk_r, List.nil_append, List.cons_append, true_and, and_true, true_or, or_true, Nat.zero_add, dp_s, Nat.reduceAdd, le8_0, le8_1, le8_2, le8_3, le8_4, le8_5, le8_6, le8_7, le8_8, Classical.not_not, aT40, aT41, aT42, aT44, aT54, aT58, aT59, rT54, rT58, rT59, reduceIte, Nat.reduceEqDiff, qn_42, qn_44, true_implies, not_true_eq_false, not_false_eq_true, false_implies]
  exact lop1 48 0 M1 (by omega) o1 m1 _
end
