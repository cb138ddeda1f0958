/-! Cache: the blocks latest used first -/
def fi : List Nat → Nat → Nat
  | [], _ => 0
  | a :: l, b => if a = b then 0 else fi l b + 1
theorem fi_le : ∀ (l : List Nat) (b : Nat), fi l b ≤ l.length
  | [], _ => Nat.le_refl _
  | a :: l, b => by
    have := fi_le l b
    unfold fi
    split
    · omega
    · simp; omega
theorem fi_get : ∀ (l : List Nat) (b : Nat), fi l b < l.length → l[fi l b]? = some b
  | [], _, h => by simp at h
  | a :: l, b, h => by
    unfold fi at h ⊢
    by_cases hab : a = b
    · rw [if_pos hab]
      simp [hab]
    · rw [if_neg hab] at h ⊢
      rw [List.getElem?_cons_succ]
      exact fi_get l b (by simpa using h)
theorem fi_ne : ∀ (l : List Nat) (b p : Nat), p < fi l b → l[p]? ≠ some b
  | [], b, p, h => by unfold fi at h; omega
  | a :: l, b, p, h => by
    unfold fi at h
    by_cases hab : a = b
    · rw [if_pos hab] at h; omega
    · rw [if_neg hab] at h
      cases p with
      | zero => simp [hab]
      | succ p =>
        rw [List.getElem?_cons_succ]
        exact fi_ne l b p (by omega)
/-- the list behind a use of b -/
def cuP (l : List Nat) (p b : Nat) : List Nat := b :: (l.take p ++ l.drop (p + 1))
def cuL (l : List Nat) (b : Nat) : List Nat := cuP l (if fi l b = l.length ∧ l.length = 6 then 5 else fi l b) b
def cuR (l : List Nat) (b : Nat) : Nat := if fi l b = l.length then 1 else 0
def Ca (M : Mm) (a : Nat) : Prop := M.sh a = some (2, 0) ∧ M.rf a 0 = some (a + 1) ∧ M.sh (a + 1) = some (41, 6)
def CaC (M : Mm) (a : Nat) (l : List Nat) (rd : Nat) : Prop := Ca M a ∧ M.it a 1 = nI l.length ∧ l.length ≤ 6 ∧ (∀ j v, l[j]? = some v → M.it (a + 1) j = nI v ∧ v < 1000) ∧ M.it a 2 = nI rd
theorem Ca.keep {M M' : Mm} {A : List Nat} {a : Nat} (h : Ca M a) (o : On A M M') : Ca M' a := by
  obtain ⟨h1, h2, h3⟩ := h
  exact ⟨by rw [o.1]; exact h1, by rw [o.2.2.2.2.1]; exact h2, by rw [o.1]; exact h3⟩
theorem CaC.keep {M M' : Mm} {A : List Nat} {a rd : Nat} {l : List Nat} (h : CaC M a l rd) (o : On A M M') (h0 : a ∉ A) (h1 : a + 1 ∉ A) : CaC M' a l rd := by
  obtain ⟨g1, g2, g3, g4, g5⟩ := h
  exact ⟨g1.keep o, by rw [o.2.2.2.2.2 a h0]; exact g2, g3, fun j v hj => by rw [o.2.2.2.2.2 _ h1]; exact g4 j v hj, by rw [o.2.2.2.2.2 a h0]; exact g5⟩
theorem k102 {d : Nat} {M : Mm} {k : mQ} {a rd : Nat} {l : List Nat} (h : CaC M a l rd) (hk : ∀ M', CaC M' a [] rd → On [a] M M' → k none M') : XC (d + 1) 102 [.inr (some a)] M k := by
  refine xc ?_
  show X d 102 0 [some (.inr (some a))] [] M k
  refine vc_X 20 _ _ _ _ _ _ _ ?_
  simp only [↓v102_0, ↓v102_1, ↓v102_2, ↓v102_5, ↓qI_c, ↓qL_c, ↓qR_c, ↓pA_o, ↓qC_i, ↓qC_r, ↓oA_s, ↓gI_0, ↓gI_1, ↓gI_2, ↓gI_3, ↓gI_4, ↓gI_5, ↓gI_6, ↓gI_7, ↓gI_8, ↓gI_9, ↓gI_10, ↓gR_0, ↓gR_1, ↓gR_2, ↓gR_3, ↓gR_4, ↓gR_5, ↓gR_6, ↓gR_7, ↓gR_8, ↓gR_9, ↓gR_10, ↓sL_0, ↓sL_1, ↓sL_2, ↓sL_3, ↓sL_4, ↓sL_5, ↓sL_6, ↓sL_7, ↓sL_8, ↓sL_9, ↓sL_10, ↓rrf_si, ↓rrf_sg, ↓shO_si, ↓shO_sg, ↓shO_sr, ↓shA_si, ↓shA_sg, ↓shA_sr, ↓pAs_0, ↓pAs_i, ↓pAs_r, stk_n, stk_i, stk_l, stk_r, List.nil_append, List.cons_append, true_and, and_true, true_or, or_true, Nat.zero_add, dp_s, Nat.reduceAdd, le8_0, le8_1, le8_2, le8_3, le8_4, le8_5, le8_6, le8_7, le8_8, Classical.not_not, aT40, aT41, aT42, aT44, aT54, aT58, aT59, rT54, rT58, rT59, reduceIte, Nat.reduceEqDiff, qn_42, qn_44, true_implies, not_true_eq_false, not_false_eq_true, false_implies, ↓shO_of h.1.1]
  have o : On [a] M (M.si a 1 0) := On.rf_.put (by simp)
  refine hk _ ⟨h.1.keep o, by rw [si_it, if_pos ⟨rfl, rfl⟩]; rfl, Nat.zero_le _, fun j v hj => by simp at hj, ?_⟩ o
  rw [si_it, if_neg (fun q => by simp at q)]
  exact h.2.2.2.2
/-- loop 2: the blocks ahead of place p move on by one -/
theorem lop30b {d : Nat} {k : mQ} {a b : Nat} {x : Option mL} : ∀ (p : Nat) (M : Mm), p < 6 → Ca M a → (∀ M', Ca M' a → (∀ j, j < 6 → M'.it (a + 1) j = (if j = 0 then nI b else if j ≤ p then M.it (a + 1) (j - 1) else M.it (a + 1) j)) → On [a + 1] M M' → k none M') →
    X d 30 70 [some (.inr (some a)), some (.inl (nI b)), x, some (.inl (nI p))] [] M k := by
  intro p
  induction p with
  | zero =>
    intro M hp h hk
    have t0 : (0 : Int32).toNatClampNeg = 0 := rfl
    refine vc_X 30 _ _ _ _ _ _ _ ?_
    simp only [↓v30_0, ↓v30_1, ↓v30_2, ↓v30_3, ↓v30_4, ↓v30_7, ↓v30_10, ↓v30_11, ↓v30_14, ↓v30_15, ↓v30_16, ↓v30_17, ↓v30_20, ↓v30_23, ↓v30_26, ↓v30_27, ↓v30_28, ↓v30_31, ↓v30_34, ↓v30_35, ↓v30_36, ↓v30_39, ↓v30_40, ↓v30_41, ↓v30_44, ↓v30_45, ↓v30_48, ↓v30_50, ↓v30_53, ↓v30_54, ↓v30_55, ↓v30_58, ↓v30_59, ↓v30_60, ↓v30_63, ↓v30_66, ↓v30_67, ↓v30_68, ↓v30_69, ↓v30_70, ↓v30_71, ↓v30_74, ↓v30_75, ↓v30_78, ↓v30_79, ↓v30_80, ↓v30_83, ↓v30_84, ↓v30_85, ↓v30_86, ↓v30_87, ↓v30_88, ↓v30_91, ↓v30_94, ↓v30_95, ↓v30_98, ↓v30_99, ↓v30_100, ↓v30_101, ↓qI_c, ↓qL_c, ↓qR_c, ↓pA_o, ↓qC_i, ↓qC_r, ↓oA_s, ↓gI_0, ↓gI_1, ↓gI_2, ↓gI_3, ↓gI_4, ↓gI_5, ↓gI_6, ↓gI_7, ↓gI_8, ↓gI_9, ↓gI_10, ↓gR_0, ↓gR_1, ↓gR_2, ↓gR_3, ↓gR_4, ↓gR_5, ↓gR_6, ↓gR_7, ↓gR_8, ↓gR_9, ↓gR_10, ↓sL_0, ↓sL_1, ↓sL_2, ↓sL_3, ↓sL_4, ↓sL_5, ↓sL_6, ↓sL_7, ↓sL_8, ↓sL_9, ↓sL_10, ↓rrf_si, ↓rrf_sg, ↓shO_si, ↓shO_sg, ↓shO_sr, ↓shA_si, ↓shA_sg, ↓shA_sr, ↓pAs_0, ↓pAs_i, ↓pAs_r, stk_n, stk_i, stk_l, stk_r, List.nil_append, List.cons_append, true_and, and_true, true_or, or_true, Nat.zero_add, dp_s, Nat.reduceAdd, le8_0, le8_1, le8_2, le8_3, le8_4, le8_5, le8_6, le8_7, le8_8, Classical.not_not, aT40, aT41, aT42, aT44, aT54, aT58, aT59, rT54, rT58, rT59, reduceIte, Nat.reduceEqDiff, qn_42, qn_44, true_implies, not_true_eq_false, not_false_eq_true, false_implies, ↓shO_of h.1, ↓rrf_of h.2.1, ↓shA_of h.2.2, le_T, T_0, nT (show 0 < 2147483648 by omega), t0]
    refine ⟨fun _ => ⟨inB_n (j := 0) (by omega) (by omega), ?_⟩, fun c => by omega⟩
    have o : On [a + 1] M (M.si (a + 1) 0 (nI b)) := On.rf_.put (by simp)
    refine hk _ (h.keep o) (fun j hj => ?_) o
    rw [si_it]
    by_cases hj0 : j = 0
    · rw [if_pos ⟨rfl, hj0⟩, if_pos hj0]
    · rw [if_neg (fun q => hj0 q.2), if_neg hj0, if_neg (by omega)]
  | succ p ih =>
    intro M hp h hk
    have e1 : nI (p + 1) + -1 = nI p := pk_m1 p
    have e2 : nI (p + 1) - 1 = nI p := nI_pred p
    refine vc_X 30 _ _ _ _ _ _ _ ?_
    simp only [↓v30_0, ↓v30_1, ↓v30_2, ↓v30_3, ↓v30_4, ↓v30_7, ↓v30_10, ↓v30_11, ↓v30_14, ↓v30_15, ↓v30_16, ↓v30_17, ↓v30_20, ↓v30_23, ↓v30_26, ↓v30_27, ↓v30_28, ↓v30_31, ↓v30_34, ↓v30_35, ↓v30_36, ↓v30_39, ↓v30_40, ↓v30_41, ↓v30_44, ↓v30_45, ↓v30_48, ↓v30_50, ↓v30_53, ↓v30_54, ↓v30_55, ↓v30_58, ↓v30_59, ↓v30_60, ↓v30_63, ↓v30_66, ↓v30_67, ↓v30_68, ↓v30_69, ↓v30_70, ↓v30_71, ↓v30_74, ↓v30_75, ↓v30_78, ↓v30_79, ↓v30_80, ↓v30_83, ↓v30_84, ↓v30_85, ↓v30_86, ↓v30_87, ↓v30_88, ↓v30_91, ↓v30_94, ↓v30_95, ↓v30_98, ↓v30_99, ↓v30_100, ↓v30_101, ↓qI_c, ↓qL_c, ↓qR_c, ↓pA_o, ↓qC_i, ↓qC_r, ↓oA_s, ↓gI_0, ↓gI_1, ↓gI_2, ↓gI_3, ↓gI_4, ↓gI_5, ↓gI_6, ↓gI_7, ↓gI_8, ↓gI_9, ↓gI_10, ↓gR_0, ↓gR_1, ↓gR_2, ↓gR_3, ↓gR_4, ↓gR_5, ↓gR_6, ↓gR_7, ↓gR_8, ↓gR_9, ↓gR_10, ↓sL_0, ↓sL_1, ↓sL_2, ↓sL_3, ↓sL_4, ↓sL_5, ↓sL_6, ↓sL_7, ↓sL_8, ↓sL_9, ↓sL_10, ↓rrf_si, ↓rrf_sg, ↓shO_si, ↓shO_sg, ↓shO_sr, ↓shA_si, ↓shA_sg, ↓shA_sr, ↓pAs_0, ↓pAs_i, ↓pAs_r, stk_n, stk_i, stk_l, stk_r, List.nil_append, List.cons_append, true_and, and_true, true_or, or_true, Nat.zero_add, dp_s, Nat.reduceAdd, le8_0, le8_1, le8_2, le8_3, le8_4, le8_5, le8_6, le8_7, le8_8, Classical.not_not, aT40, aT41, aT42, aT44, aT54, aT58, aT59, rT54, rT58, rT59, reduceIte, Nat.reduceEqDiff, qn_42, qn_44, true_implies, not_true_eq_false, not_false_eq_true, false_implies, ↓shO_of h.1, ↓rrf_of h.2.1, ↓shA_of h.2.2, le_T, T_0, nT (show p + 1 < 2147483648 by omega), e1, e2, nC (show p < 2147483648 by omega), nC (show p + 1 < 2147483648 by omega)]
    refine ⟨fun c => by omega, fun _ => ⟨inB_n (by omega) (by omega), inB_n (by omega) (by omega), ?_⟩⟩
    have o : On [a + 1] M (M.si (a + 1) (p + 1) (M.it (a + 1) p)) := On.rf_.put (by simp)
    refine ih _ (by omega) (h.keep o) (fun M' h5 h6 o5 => hk M' h5 (fun j hj => ?_) (o.trans o5 (fun x q => q)))
    rw [h6 j hj, si_it, si_it]
    by_cases h0 : j = 0
    · rw [if_pos h0, if_pos h0]
    · rw [if_neg h0, if_neg h0]
      by_cases h1 : j ≤ p
      · rw [if_pos h1, if_neg (fun q => by have := q.2; omega), if_pos (by omega)]
      · rw [if_neg h1]
        by_cases h2 : j = p + 1
        · rw [if_pos ⟨rfl, h2⟩, if_pos (by omega), h2]
          rfl
        · rw [if_neg (fun q => h2 q.2), if_neg (by omega)]
theorem lop30a {d : Nat} {M : Mm} {k : mQ} {a b rd : Nat} {l : List Nat} (h : CaC M a l rd) (hb : b < 1000) (hk : X d 30 26 [some (.inr (some a)), some (.inl (nI b)), some (.inl (nI (fi l b))), none] [] M k) : ∀ m p, p + m = fi l b → X d 30 2 [some (.inr (some a)), some (.inl (nI b)), some (.inl (nI p)), none] [] M k := by
  obtain ⟨⟨b1, b2, b3⟩, g1, g2, g3, g4⟩ := h
  have hfl := fi_le l b
  intro m
  induction m with
  | zero =>
    intro p hp
    have : p = fi l b := by omega
    subst this
    refine vc_X 30 _ _ _ _ _ _ _ ?_
    simp only [↓v30_0, ↓v30_1, ↓v30_2, ↓v30_3, ↓v30_4, ↓v30_7, ↓v30_10, ↓v30_11, ↓v30_14, ↓v30_15, ↓v30_16, ↓v30_17, ↓v30_20, ↓v30_23, ↓v30_26, ↓v30_27, ↓v30_28, ↓v30_31, ↓v30_34, ↓v30_35, ↓v30_36, ↓v30_39, ↓v30_40, ↓v30_41, ↓v30_44, ↓v30_45, ↓v30_48, ↓v30_50, ↓v30_53, ↓v30_54, ↓v30_55, ↓v30_58, ↓v30_59, ↓v30_60, ↓v30_63, ↓v30_66, ↓v30_67, ↓v30_68, ↓v30_69, ↓v30_70, ↓v30_71, ↓v30_74, ↓v30_75, ↓v30_78, ↓v30_79, ↓v30_80, ↓v30_83, ↓v30_84, ↓v30_85, ↓v30_86, ↓v30_87, ↓v30_88, ↓v30_91, ↓v30_94, ↓v30_95, ↓v30_98, ↓v30_99, ↓v30_100, ↓v30_101, ↓qI_c, ↓qL_c, ↓qR_c, ↓pA_o, ↓qC_i, ↓qC_r, ↓oA_s, ↓gI_0, ↓gI_1, ↓gI_2, ↓gI_3, ↓gI_4, ↓gI_5, ↓gI_6, ↓gI_7, ↓gI_8, ↓gI_9, ↓gI_10, ↓gR_0, ↓gR_1, ↓gR_2, ↓gR_3, ↓gR_4, ↓gR_5, ↓gR_6, ↓gR_7, ↓gR_8, ↓gR_9, ↓gR_10, ↓sL_0, ↓sL_1, ↓sL_2, ↓sL_3, ↓sL_4, ↓sL_5, ↓sL_6, ↓sL_7, ↓sL_8, ↓sL_9, ↓sL_10, ↓rrf_si, ↓rrf_sg, ↓shO_si, ↓shO_sg, ↓shO_sr, ↓shA_si, ↓shA_sg, ↓shA_sr, ↓pAs_0, ↓pAs_i, ↓pAs_r, stk_n, stk_i, stk_l, stk_r, List.nil_append, List.cons_append, true_and, and_true, true_or, or_true, Nat.zero_add, dp_s, Nat.reduceAdd, le8_0, le8_1, le8_2, le8_3, le8_4, le8_5, le8_6, le8_7, le8_8, Classical.not_not, aT40, aT41, aT42, aT44, aT54, aT58, aT59, rT54, rT58, rT59, reduceIte, Nat.reduceEqDiff, qn_42, qn_44, true_implies, not_true_eq_false, not_false_eq_true, false_implies, ↓shO_of b1, ↓rrf_of b2, ↓shA_of b3, le_T, g1, nT (show l.length < 2147483648 by omega), nT (show fi l b < 2147483648 by omega), nC (show fi l b < 2147483648 by omega)]
    refine ⟨fun _ => hk, fun c => ⟨inB_n (by omega) (by omega), fun _ => hk, fun c2 => ?_⟩⟩
    exact absurd (g3 _ _ (fi_get l b (by omega))).1 c2
  | succ m ih =>
    intro p hp
    have hpl : p < l.length := by omega
    have hv : l[p]? = some l[p] := List.getElem?_eq_getElem hpl
    have hvb : ¬ l[p] = b := fun q => fi_ne l b p (by omega) (by rw [hv, q])
    obtain ⟨e1, e2⟩ := g3 p _ hv
    refine vc_X 30 _ _ _ _ _ _ _ ?_
    simp only [↓v30_0, ↓v30_1, ↓v30_2, ↓v30_3, ↓v30_4, ↓v30_7, ↓v30_10, ↓v30_11, ↓v30_14, ↓v30_15, ↓v30_16, ↓v30_17, ↓v30_20, ↓v30_23, ↓v30_26, ↓v30_27, ↓v30_28, ↓v30_31, ↓v30_34, ↓v30_35, ↓v30_36, ↓v30_39, ↓v30_40, ↓v30_41, ↓v30_44, ↓v30_45, ↓v30_48, ↓v30_50, ↓v30_53, ↓v30_54, ↓v30_55, ↓v30_58, ↓v30_59, ↓v30_60, ↓v30_63, ↓v30_66, ↓v30_67, ↓v30_68, ↓v30_69, ↓v30_70, ↓v30_71, ↓v30_74, ↓v30_75, ↓v30_78, ↓v30_79, ↓v30_80, ↓v30_83, ↓v30_84, ↓v30_85, ↓v30_86, ↓v30_87, ↓v30_88, ↓v30_91, ↓v30_94, ↓v30_95, ↓v30_98, ↓v30_99, ↓v30_100, ↓v30_101, ↓qI_c, ↓qL_c, ↓qR_c, ↓pA_o, ↓qC_i, ↓qC_r, ↓oA_s, ↓gI_0, ↓gI_1, ↓gI_2, ↓gI_3, ↓gI_4, ↓gI_5, ↓gI_6, ↓gI_7, ↓gI_8, ↓gI_9, ↓gI_10, ↓gR_0, ↓gR_1, ↓gR_2, ↓gR_3, ↓gR_4, ↓gR_5, ↓gR_6, ↓gR_7, ↓gR_8, ↓gR_9, ↓gR_10, ↓sL_0, ↓sL_1, ↓sL_2, ↓sL_3, ↓sL_4, ↓sL_5, ↓sL_6, ↓sL_7, ↓sL_8, ↓sL_9, ↓sL_10, ↓rrf_si, ↓rrf_sg, ↓shO_si, ↓shO_sg, ↓shO_sr, ↓shA_si, ↓shA_sg, ↓shA_sr, ↓pAs_0, ↓pAs_i, ↓pAs_r, stk_n, stk_i, stk_l, stk_r, List.nil_append, List.cons_append, true_and, and_true, true_or, or_true, Nat.zero_add, dp_s, Nat.reduceAdd, le8_0, le8_1, le8_2, le8_3, le8_4, le8_5, le8_6, le8_7, le8_8, Classical.not_not, aT40, aT41, aT42, aT44, aT54, aT58, aT59, rT54, rT58, rT59, reduceIte, Nat.reduceEqDiff, qn_42, qn_44, true_implies, not_true_eq_false, not_false_eq_true, false_implies, ↓shO_of b1, ↓rrf_of b2, ↓shA_of b3, le_T, g1, nT (show l.length < 2147483648 by omega), nT (show p < 2147483648 by omega), nC (show p < 2147483648 by omega), e1, nI_1]
    refine ⟨fun c => by omega, fun c => ⟨inB_n (by omega) (by omega), fun c2 => ?_, fun c2 => ih (p + 1) (by omega)⟩⟩
    rw [nI_eq (by omega) (by omega)] at c2
    exact absurd c2 hvb
theorem cuP_get {l : List Nat} {p b j v : Nat} (hp : p ≤ l.length) (h : (cuP l p b)[j]? = some v) : (j = 0 ∧ v = b) ∨ (0 < j ∧ j ≤ p ∧ l[j - 1]? = some v) ∨ (p < j ∧ l[j]? = some v) := by
  cases j with
  | zero =>
    left
    simp [cuP] at h
    exact ⟨rfl, h.symm⟩
  | succ j =>
    right
    have h : (l.take p ++ l.drop (p + 1))[j]? = some v := h
    by_cases hj : j < p
    · left
      rw [List.getElem?_append_left (by rw [List.length_take]; omega), List.getElem?_take] at h
      rw [if_pos hj] at h
      exact ⟨by omega, by omega, h⟩
    · right
      rw [List.getElem?_append_right (by rw [List.length_take]; omega), List.length_take, List.getElem?_drop] at h
      rw [show p + 1 + (j - min p l.length) = j + 1 by omega] at h
      exact ⟨by omega, h⟩
theorem cuP_len {l : List Nat} {p b : Nat} (hp : p ≤ l.length) : (cuP l p b).length = if p = l.length then l.length + 1 else l.length := by
  simp only [cuP, List.length_cons, List.length_append, List.length_take, List.length_drop]
  split <;> omega
theorem k30 {d : Nat} {M : Mm} {k : mQ} {a b rd : Nat} {l : List Nat} (h : CaC M a l rd) (hb : b < 1000) (hr : rd < 100000000) (hk : ∀ M', CaC M' a (cuL l b) (rd + cuR l b) → On [a, a + 1] M M' → k none M') : XC (d + 1) 30 [.inr (some a), .inl (nI b)] M k := by
  obtain ⟨⟨b1, b2, b3⟩, g1, g2, g3, g4⟩ := id h
  have hfl := fi_le l b
  refine xc ?_
  show X d 30 0 [some (.inr (some a)), some (.inl (nI b)), none, none] [] M k
  refine vc_X 30 _ _ _ _ _ _ _ ?_
  simp only [↓v30_0, ↓v30_1, ↓v30_2, ↓v30_3, ↓v30_4, ↓v30_7, ↓v30_10, ↓v30_11, ↓v30_14, ↓v30_15, ↓v30_16, ↓v30_17, ↓v30_20, ↓v30_23, ↓v30_26, ↓v30_27, ↓v30_28, ↓v30_31, ↓v30_34, ↓v30_35, ↓v30_36, ↓v30_39, ↓v30_40, ↓v30_41, ↓v30_44, ↓v30_45, ↓v30_48, ↓v30_50, ↓v30_53, ↓v30_54, ↓v30_55, ↓v30_58, ↓v30_59, ↓v30_60, ↓v30_63, ↓v30_66, ↓v30_67, ↓v30_68, ↓v30_69, ↓v30_70, ↓v30_71, ↓v30_74, ↓v30_75, ↓v30_78, ↓v30_79, ↓v30_80, ↓v30_83, ↓v30_84, ↓v30_85, ↓v30_86, ↓v30_87, ↓v30_88, ↓v30_91, ↓v30_94, ↓v30_95, ↓v30_98, ↓v30_99, ↓v30_100, ↓v30_101, ↓qI_c, ↓qL_c, ↓qR_c, ↓pA_o, ↓qC_i, ↓qC_r, ↓oA_s, ↓gI_0, ↓gI_1, ↓gI_2, ↓gI_3, ↓gI_4, ↓gI_5, ↓gI_6, ↓gI_7, ↓gI_8, ↓gI_9, ↓gI_10, ↓gR_0, ↓gR_1, ↓gR_2, ↓gR_3, ↓gR_4, ↓gR_5, ↓gR_6, ↓gR_7, ↓gR_8, ↓gR_9, ↓gR_10, ↓sL_0, ↓sL_1, ↓sL_2, ↓sL_3, ↓sL_4, ↓sL_5, ↓sL_6, ↓sL_7, ↓sL_8, ↓sL_9, ↓sL_10, ↓rrf_si, ↓rrf_sg, ↓shO_si, ↓shO_sg, ↓shO_sr, ↓shA_si, ↓shA_sg, ↓shA_sr, ↓pAs_0, ↓pAs_i, ↓pAs_r, stk_n, stk_i, stk_l, stk_r, List.nil_append, List.cons_append, true_and, and_true, true_or, or_true, Nat.zero_add, dp_s, Nat.reduceAdd, le8_0, le8_1, le8_2, le8_3, le8_4, le8_5, le8_6, le8_7, le8_8, Classical.not_not, aT40, aT41, aT42, aT44, aT54, aT58, aT59, rT54, rT58, rT59, reduceIte, Nat.reduceEqDiff, qn_42, qn_44, true_implies, not_true_eq_false, not_false_eq_true, false_implies]
  refine lop30a h hb ?_ (fi l b) 0 (Nat.zero_add _)
  -- the end, from any memory M1 with the count and the reads as they must be
  have fin : ∀ (M1 : Mm) (p : Nat) (y : Option mL), p ≤ l.length → p < 6 → On [a] M M1 → M1.it a 1 = nI (cuP l p b).length → M1.it a 2 = nI (rd + cuR l b) → (if fi l b = l.length ∧ l.length = 6 then 5 else fi l b) = p → X d 30 70 [some (.inr (some a)), some (.inl (nI b)), y, some (.inl (nI p))] [] M1 k := by
    intro M1 p y hp hp6 o1 q1 q2 q3
    have hc : Ca M1 a := h.1.keep o1
    refine lop30b p M1 hp6 hc (fun M' h5 h6 o5 => hk M' ?_ ((o1.mono (by simp)).trans o5 (by simp)))
    have hcl := cuP_len (b := b) hp
    refine ⟨h5, ?_, ?_, fun j v hj => ?_, ?_⟩
    · rw [o5.2.2.2.2.2 a (by simp), q1]
      unfold cuL
      rw [q3]
    · unfold cuL
      rw [q3, hcl]
      split <;> omega
    · unfold cuL at hj
      rw [q3] at hj
      have hj6 : j < 6 := by
        have := (List.getElem?_eq_some_iff.mp hj).1
        rw [hcl] at this
        split at this <;> omega
      rw [h6 j hj6]
      have o1c : ∀ i, M1.it (a + 1) i = M.it (a + 1) i := fun i => o1.2.2.2.2.2 _ (by simp) i
      rcases cuP_get hp hj with ⟨h0, h1⟩ | ⟨h0, h1, h2⟩ | ⟨h1, h2⟩
      · rw [if_pos h0, h1]
        exact ⟨rfl, hb⟩
      · rw [if_neg (by omega), if_pos h1, o1c]
        exact g3 _ _ h2
      · rw [if_neg (by omega), if_neg (by omega), o1c]
        exact g3 _ _ h2
    · rw [o5.2.2.2.2.2 a (by simp), q2]
  have t : (nI (fi l b) = nI l.length) ↔ fi l b = l.length := nI_eq (by omega) (by omega)
  refine vc_X 30 _ _ _ _ _ _ _ ?_
  simp only [↓v30_0, ↓v30_1, ↓v30_2, ↓v30_3, ↓v30_4, ↓v30_7, ↓v30_10, ↓v30_11, ↓v30_14, ↓v30_15, ↓v30_16, ↓v30_17, ↓v30_20, ↓v30_23, ↓v30_26, ↓v30_27, ↓v30_28, ↓v30_31, ↓v30_34, ↓v30_35, ↓v30_36, ↓v30_39, ↓v30_40, ↓v30_41, ↓v30_44, ↓v30_45, ↓v30_48, ↓v30_50, ↓v30_53, ↓v30_54, ↓v30_55, ↓v30_58, ↓v30_59, ↓v30_60, ↓v30_63, ↓v30_66, ↓v30_67, ↓v30_68, ↓v30_69, ↓v30_70, ↓v30_71, ↓v30_74, ↓v30_75, ↓v30_78, ↓v30_79, ↓v30_80, ↓v30_83, ↓v30_84, ↓v30_85, ↓v30_86, ↓v30_87, ↓v30_88, ↓v30_91, ↓v30_94, ↓v30_95, ↓v30_98, ↓v30_99, ↓v30_100, ↓v30_101, ↓qI_c, ↓qL_c, ↓qR_c, ↓pA_o, ↓qC_i, ↓qC_r, ↓oA_s, ↓gI_0, ↓gI_1, ↓gI_2, ↓gI_3, ↓gI_4, ↓gI_5, ↓gI_6, ↓gI_7, ↓gI_8, ↓gI_9, ↓gI_10, ↓gR_0, ↓gR_1, ↓gR_2, ↓gR_3, ↓gR_4, ↓gR_5, ↓gR_6, ↓gR_7, ↓gR_8, ↓gR_9, ↓gR_10, ↓sL_0, ↓sL_1, ↓sL_2, ↓sL_3, ↓sL_4, ↓sL_5, ↓sL_6, ↓sL_7, ↓sL_8, ↓sL_9, ↓sL_10, ↓rrf_si, ↓rrf_sg, ↓shO_si, ↓shO_sg, ↓shO_sr, ↓shA_si, ↓shA_sg, ↓shA_sr, ↓pAs_0, ↓pAs_i, ↓pAs_r, stk_n, stk_i, stk_l, stk_r, List.nil_append, List.cons_append, true_and, and_true, true_or, or_true, Nat.zero_add, dp_s, Nat.reduceAdd, le8_0, le8_1, le8_2, le8_3, le8_4, le8_5, le8_6, le8_7, le8_8, Classical.not_not, aT40, aT41, aT42, aT44, aT54, aT58, aT59, rT54, rT58, rT59, reduceIte, Nat.reduceEqDiff, qn_42, qn_44, true_implies, not_true_eq_false, not_false_eq_true, false_implies, ↓shO_of b1, ↓rrf_of b2, ↓shA_of b3, g1, g4, si_it, t, le_T, T_6, nT (show l.length < 2147483648 by omega), nI_1, n_5]
  refine ⟨fun c => ?_, fun c => ⟨fun c6 => ?_, fun c6 => ?_⟩⟩
  · refine fin M (fi l b) _ hfl (by omega) On.rf_ ?_ ?_ (if_neg (fun q => c q.1))
    · rw [cuP_len hfl, if_neg c]
      exact g1
    · rw [show cuR l b = 0 from if_neg c]
      exact g4
  · have h6 : l.length = 6 := by omega
    refine fin _ 5 _ (by omega) (by omega) (On.rf_.put (by simp)) ?_ ?_ (if_pos ⟨c, h6⟩)
    · rw [cuP_len (by omega), if_neg (by omega), si_it, if_neg (fun q => by simp at q)]
      exact g1
    · rw [show cuR l b = 1 from if_pos c, si_it, if_pos ⟨rfl, rfl⟩]
  · refine fin _ (fi l b) _ hfl (by omega) ((On.rf_.put (by simp)).put (by simp)) ?_ ?_ (if_neg (fun q => by omega))
    · rw [cuP_len hfl, if_pos c, si_it, if_pos ⟨rfl, rfl⟩]
    · rw [show cuR l b = 1 from if_pos c, si_it, if_neg (fun q => by simp at q), si_it, if_pos ⟨rfl, rfl⟩]

