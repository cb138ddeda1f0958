/-! Entries.spell, readFrom -/
theorem a255 {n : Nat} (h : n < 256) : nI n &&& 255 = nI n := by
  rw [pk_andN (by omega) 8 (by decide), Nat.mod_eq_of_lt (by omega)]
theorem nI_nm {p : Nat} (h : p < 2147483648) {k : Int32} (hk : k.toInt < 0) : (nI p = k) = False := by
  refine eq_false fun q => ?_
  rw [eq_T, nT h] at q
  omega
theorem m21 : ((-2 : Int32) = -1) = False := eq_false (by decide)
theorem m22 : ((-2 : Int32) = -2) = True := eq_self _
theorem m11 : ((-1 : Int32) = -1) = True := eq_self _
def spE (n : Nat) (o : Option Nat) : List Nat := match o with
  | none => []
  | some p => [n, if p = 255 then 255 else p / 16, if p = 255 then 0 else p % 16]
def spl (sp : Nat → Option Nat) : Nat → List Nat
  | 0 => []
  | n + 1 => spl sp n ++ spE n (sp n)
def nE (sp : Nat → Option Nat) (n : Nat) : Nat := cnt (fun k => (sp k).isSome) n
def tbL (sp : Nat → Option Nat) : List Nat := nE sp 48 :: spl sp 48
theorem nE_le (sp : Nat → Option Nat) (n : Nat) : nE sp n ≤ n := cnt_le _ n
theorem nE_s (sp : Nat → Option Nat) (n : Nat) : nE sp (n + 1) = nE sp n + (if (sp n).isSome then 1 else 0) := rfl
theorem spl_len (sp : Nat → Option Nat) : ∀ n, (spl sp n).length = 3 * nE sp n
  | 0 => rfl
  | n + 1 => by
    show (spl sp n ++ spE n (sp n)).length = _
    rw [List.length_append, spl_len sp n, nE_s]
    cases sp n with
    | none => simp [spE]
    | some p => simp [spE]; omega
theorem lop70 {d : Nat} {k : mQ} {a s f c N : Nat} {sp : Nat → Option Nat} {pl : Option Nat} {h0 : List Nat} (n1 : a ≠ f) (n2 : a ≠ c) (n3 : s ≠ f) (n4 : s ≠ c) (hN : h0.length + 144 ≤ N) : ∀ (m i : Nat) (M : Mm) (z : Option mL), i + m = 48 → EnC M a s sp pl → BC M f c N ((h0 ++ spl sp i).map nI) → (∀ M', BC M' f c N ((h0 ++ spl sp 48).map nI) → On [f, c] M M' → k none M') →
    X (d + 1) 70 14 [some (.inr (some a)), some (.inr (some f)), some (.inl (nI i)), z] [] M k := by
  intro m
  induction m with
  | zero =>
    intro i M z hi h hb hk
    have e : i = 48 := by omega
    subst e
    refine vc_X 30 _ _ _ _ _ _ _ ?_
    simp only [↓v70_0, ↓v70_1, ↓v70_4, ↓v70_5, ↓v70_6, ↓v70_9, ↓v70_12, ↓v70_13, ↓v70_14, ↓v70_15, ↓v70_17, ↓v70_20, ↓v70_21, ↓v70_24, ↓v70_25, ↓v70_26, ↓v70_27, ↓v70_28, ↓v70_29, ↓v70_32, ↓v70_33, ↓v70_34, ↓v70_37, ↓v70_38, ↓v70_39, ↓v70_41, ↓v70_44, ↓v70_47, ↓v70_50, ↓v70_51, ↓v70_53, ↓v70_54, ↓v70_57, ↓v70_58, ↓v70_59, ↓v70_61, ↓v70_64, ↓v70_65, ↓v70_68, ↓v70_69, ↓v70_71, ↓v70_72, ↓v70_75, ↓v70_78, ↓v70_81, ↓qI_c, ↓qL_c, ↓qR_c, ↓pA_o, ↓qC_i, ↓qC_r, ↓oA_s, ↓gI_0, ↓gI_1, ↓gI_2, ↓gI_3, ↓gI_4, ↓gI_5, ↓gI_6, ↓gI_7, ↓gI_8, ↓gI_9, ↓gI_10, ↓gR_0, ↓gR_1, ↓gR_2, ↓gR_3, ↓gR_4, ↓gR_5, ↓gR_6, ↓gR_7, ↓gR_8, ↓gR_9, ↓gR_10, ↓sL_0, ↓sL_1, ↓sL_2, ↓sL_3, ↓sL_4, ↓sL_5, ↓sL_6, ↓sL_7, ↓sL_8, ↓sL_9, ↓sL_10, ↓rrf_si, ↓rrf_sg, ↓shO_si, ↓shO_sg, ↓shO_sr, ↓shA_si, ↓shA_sg, ↓shA_sr, ↓pAs_0, ↓pAs_i, ↓pAs_r, stk_n, stk_i, stk_l, stk_r, List.nil_append, List.cons_append, true_and, and_true, true_or, or_true, Nat.zero_add, dp_s, Nat.reduceAdd, le8_0, le8_1, le8_2, le8_3, le8_4, le8_5, le8_6, le8_7, le8_8, Classical.not_not, aT40, aT41, aT42, aT44, aT54, aT58, aT59, rT54, rT58, rT59, reduceIte, Nat.reduceEqDiff, qn_42, qn_44, true_implies, not_true_eq_false, not_false_eq_true, false_implies, le_T, T_48, nT (show 48 < 2147483648 by omega)]
    exact ⟨fun _ => hk M hb On.rf_, fun c => absurd (by decide) c⟩
  | succ m ih =>
    intro i M z hi h hb hk
    obtain ⟨⟨b1, b2, b3⟩, g1, g2, g3, g4⟩ := id h
    have hg := g1 i (by omega)
    have hl := spl_len sp i
    have hl2 := nE_le sp i
    cases hs : sp i with
    | none =>
      rw [hs] at hg
      have hg : M.it s i = -1 := hg
      refine vc_X 30 _ _ _ _ _ _ _ ?_
      simp only [↓v70_0, ↓v70_1, ↓v70_4, ↓v70_5, ↓v70_6, ↓v70_9, ↓v70_12, ↓v70_13, ↓v70_14, ↓v70_15, ↓v70_17, ↓v70_20, ↓v70_21, ↓v70_24, ↓v70_25, ↓v70_26, ↓v70_27, ↓v70_28, ↓v70_29, ↓v70_32, ↓v70_33, ↓v70_34, ↓v70_37, ↓v70_38, ↓v70_39, ↓v70_41, ↓v70_44, ↓v70_47, ↓v70_50, ↓v70_51, ↓v70_53, ↓v70_54, ↓v70_57, ↓v70_58, ↓v70_59, ↓v70_61, ↓v70_64, ↓v70_65, ↓v70_68, ↓v70_69, ↓v70_71, ↓v70_72, ↓v70_75, ↓v70_78, ↓v70_81, ↓qI_c, ↓qL_c, ↓qR_c, ↓pA_o, ↓qC_i, ↓qC_r, ↓oA_s, ↓gI_0, ↓gI_1, ↓gI_2, ↓gI_3, ↓gI_4, ↓gI_5, ↓gI_6, ↓gI_7, ↓gI_8, ↓gI_9, ↓gI_10, ↓gR_0, ↓gR_1, ↓gR_2, ↓gR_3, ↓gR_4, ↓gR_5, ↓gR_6, ↓gR_7, ↓gR_8, ↓gR_9, ↓gR_10, ↓sL_0, ↓sL_1, ↓sL_2, ↓sL_3, ↓sL_4, ↓sL_5, ↓sL_6, ↓sL_7, ↓sL_8, ↓sL_9, ↓sL_10, ↓rrf_si, ↓rrf_sg, ↓shO_si, ↓shO_sg, ↓shO_sr, ↓shA_si, ↓shA_sg, ↓shA_sr, ↓pAs_0, ↓pAs_i, ↓pAs_r, stk_n, stk_i, stk_l, stk_r, List.nil_append, List.cons_append, true_and, and_true, true_or, or_true, Nat.zero_add, dp_s, Nat.reduceAdd, le8_0, le8_1, le8_2, le8_3, le8_4, le8_5, le8_6, le8_7, le8_8, Classical.not_not, aT40, aT41, aT42, aT44, aT54, aT58, aT59, rT54, rT58, rT59, reduceIte, Nat.reduceEqDiff, qn_42, qn_44, true_implies, not_true_eq_false, not_false_eq_true, false_implies, le_T, T_48, nT (show i < 2147483648 by omega), ↓shO_of b1, ↓rrf_of b2, ↓shA_of b3, nC (show i < 2147483648 by omega), hg, m11]
      refine ⟨fun c => by omega, fun _ => ⟨inB_n (by omega) (by omega), ?_⟩⟩
      refine vc_X 30 _ _ _ _ _ _ _ ?_
      simp only [↓v70_0, ↓v70_1, ↓v70_4, ↓v70_5, ↓v70_6, ↓v70_9, ↓v70_12, ↓v70_13, ↓v70_14, ↓v70_15, ↓v70_17, ↓v70_20, ↓v70_21, ↓v70_24, ↓v70_25, ↓v70_26, ↓v70_27, ↓v70_28, ↓v70_29, ↓v70_32, ↓v70_33, ↓v70_34, ↓v70_37, ↓v70_38, ↓v70_39, ↓v70_41, ↓v70_44, ↓v70_47, ↓v70_50, ↓v70_51, ↓v70_53, ↓v70_54, ↓v70_57, ↓v70_58, ↓v70_59, ↓v70_61, ↓v70_64, ↓v70_65, ↓v70_68, ↓v70_69, ↓v70_71, ↓v70_72, ↓v70_75, ↓v70_78, ↓v70_81, ↓qI_c, ↓qL_c, ↓qR_c, ↓pA_o, ↓qC_i, ↓qC_r, ↓oA_s, ↓gI_0, ↓gI_1, ↓gI_2, ↓gI_3, ↓gI_4, ↓gI_5, ↓gI_6, ↓gI_7, ↓gI_8, ↓gI_9, ↓gI_10, ↓gR_0, ↓gR_1, ↓gR_2, ↓gR_3, ↓gR_4, ↓gR_5, ↓gR_6, ↓gR_7, ↓gR_8, ↓gR_9, ↓gR_10, ↓sL_0, ↓sL_1, ↓sL_2, ↓sL_3, ↓sL_4, ↓sL_5, ↓sL_6, ↓sL_7, ↓sL_8, ↓sL_9, ↓sL_10, ↓rrf_si, ↓rrf_sg, ↓shO_si, ↓shO_sg, ↓shO_sr, ↓shA_si, ↓shA_sg, ↓shA_sr, ↓pAs_0, ↓pAs_i, ↓pAs_r, stk_n, stk_i, stk_l, stk_r, List.nil_append, List.cons_append, true_and, and_true, true_or, or_true, Nat.zero_add, dp_s, Nat.reduceAdd, le8_0, le8_1, le8_2, le8_3, le8_4, le8_5, le8_6, le8_7, le8_8, Classical.not_not, aT40, aT41, aT42, aT44, aT54, aT58, aT59, rT54, rT58, rT59, reduceIte, Nat.reduceEqDiff, qn_42, qn_44, true_implies, not_true_eq_false, not_false_eq_true, false_implies, nI_1]
      refine ih (i + 1) M _ (by omega) h ?_ hk
      show BC M f c N ((h0 ++ (spl sp i ++ spE i (sp i))).map nI)
      rw [hs]
      show BC M f c N ((h0 ++ (spl sp i ++ [])).map nI)
      rw [List.append_nil]
      exact hb
    | some p =>
      rw [hs] at hg
      have hp := g2 i p (by omega) hs
      have fin : ∀ M' z, EnC M' a s sp pl → BC M' f c N ((h0 ++ spl sp i).map nI ++ [nI i] ++ [nI (if p = 255 then 255 else p / 16)] ++ [nI (if p = 255 then 0 else p % 16)]) → On [f, c] M M' → X (d + 1) 70 75 [some (.inr (some a)), some (.inr (some f)), some (.inl (nI i)), z] [] M' k := by
        intro M' z h' hb' o
        refine vc_X 30 _ _ _ _ _ _ _ ?_
        simp only [↓v70_0, ↓v70_1, ↓v70_4, ↓v70_5, ↓v70_6, ↓v70_9, ↓v70_12, ↓v70_13, ↓v70_14, ↓v70_15, ↓v70_17, ↓v70_20, ↓v70_21, ↓v70_24, ↓v70_25, ↓v70_26, ↓v70_27, ↓v70_28, ↓v70_29, ↓v70_32, ↓v70_33, ↓v70_34, ↓v70_37, ↓v70_38, ↓v70_39, ↓v70_41, ↓v70_44, ↓v70_47, ↓v70_50, ↓v70_51, ↓v70_53, ↓v70_54, ↓v70_57, ↓v70_58, ↓v70_59, ↓v70_61, ↓v70_64, ↓v70_65, ↓v70_68, ↓v70_69, ↓v70_71, ↓v70_72, ↓v70_75, ↓v70_78, ↓v70_81, ↓qI_c, ↓qL_c, ↓qR_c, ↓pA_o, ↓qC_i, ↓qC_r, ↓oA_s, ↓gI_0, ↓gI_1, ↓gI_2, ↓gI_3, ↓gI_4, ↓gI_5, ↓gI_6, ↓gI_7, ↓gI_8, ↓gI_9, ↓gI_10, ↓gR_0, ↓gR_1, ↓gR_2, ↓gR_3, ↓gR_4, ↓gR_5, ↓gR_6, ↓gR_7, ↓gR_8, ↓gR_9, ↓gR_10, ↓sL_0, ↓sL_1, ↓sL_2, ↓sL_3, ↓sL_4, ↓sL_5, ↓sL_6, ↓sL_7, ↓sL_8, ↓sL_9, ↓sL_10, ↓rrf_si, ↓rrf_sg, ↓shO_si, ↓shO_sg, ↓shO_sr, ↓shA_si, ↓shA_sg, ↓shA_sr, ↓pAs_0, ↓pAs_i, ↓pAs_r, stk_n, stk_i, stk_l, stk_r, List.nil_append, List.cons_append, true_and, and_true, true_or, or_true, Nat.zero_add, dp_s, Nat.reduceAdd, le8_0, le8_1, le8_2, le8_3, le8_4, le8_5, le8_6, le8_7, le8_8, Classical.not_not, aT40, aT41, aT42, aT44, aT54, aT58, aT59, rT54, rT58, rT59, reduceIte, Nat.reduceEqDiff, qn_42, qn_44, true_implies, not_true_eq_false, not_false_eq_true, false_implies, nI_1]
        refine ih (i + 1) M' _ (by omega) h' ?_ (fun M2 h2 o2 => hk M2 h2 (o.trans o2 (fun _ x => x)))
        show BC M' f c N ((h0 ++ (spl sp i ++ spE i (sp i))).map nI)
        rw [hs]
        show BC M' f c N ((h0 ++ (spl sp i ++ [i, if p = 255 then 255 else p / 16, if p = 255 then 0 else p % 16])).map nI)
        simpa using hb'
      have K : ∀ M', On [f, c] M M' → EnC M' a s sp pl := fun M' o => h.keep o (by simp [n1, n2]) (by simp [n3, n4])
      by_cases hp2 : p = 255
      · subst hp2
        have hg : M.it s i = -2 := hg
        refine vc_X 30 _ _ _ _ _ _ _ ?_
        simp only [↓v70_0, ↓v70_1, ↓v70_4, ↓v70_5, ↓v70_6, ↓v70_9, ↓v70_12, ↓v70_13, ↓v70_14, ↓v70_15, ↓v70_17, ↓v70_20, ↓v70_21, ↓v70_24, ↓v70_25, ↓v70_26, ↓v70_27, ↓v70_28, ↓v70_29, ↓v70_32, ↓v70_33, ↓v70_34, ↓v70_37, ↓v70_38, ↓v70_39, ↓v70_41, ↓v70_44, ↓v70_47, ↓v70_50, ↓v70_51, ↓v70_53, ↓v70_54, ↓v70_57, ↓v70_58, ↓v70_59, ↓v70_61, ↓v70_64, ↓v70_65, ↓v70_68, ↓v70_69, ↓v70_71, ↓v70_72, ↓v70_75, ↓v70_78, ↓v70_81, ↓qI_c, ↓qL_c, ↓qR_c, ↓pA_o, ↓qC_i, ↓qC_r, ↓oA_s, ↓gI_0, ↓gI_1, ↓gI_2, ↓gI_3, ↓gI_4, ↓gI_5, ↓gI_6, ↓gI_7, ↓gI_8, ↓gI_9, ↓gI_10, ↓gR_0, ↓gR_1, ↓gR_2, ↓gR_3, ↓gR_4, ↓gR_5, ↓gR_6, ↓gR_7, ↓gR_8, ↓gR_9, ↓gR_10, ↓sL_0, ↓sL_1, ↓sL_2, ↓sL_3, ↓sL_4, ↓sL_5, ↓sL_6, ↓sL_7, ↓sL_8, ↓sL_9, ↓sL_10, ↓rrf_si, ↓rrf_sg, ↓shO_si, ↓shO_sg, ↓shO_sr, ↓shA_si, ↓shA_sg, ↓shA_sr, ↓pAs_0, ↓pAs_i, ↓pAs_r, stk_n, stk_i, stk_l, stk_r, List.nil_append, List.cons_append, true_and, and_true, true_or, or_true, Nat.zero_add, dp_s, Nat.reduceAdd, le8_0, le8_1, le8_2, le8_3, le8_4, le8_5, le8_6, le8_7, le8_8, Classical.not_not, aT40, aT41, aT42, aT44, aT54, aT58, aT59, rT54, rT58, rT59, reduceIte, Nat.reduceEqDiff, qn_42, qn_44, true_implies, not_true_eq_false, not_false_eq_true, false_implies, le_T, T_48, nT (show i < 2147483648 by omega), ↓shO_of b1, ↓rrf_of b2, ↓shA_of b3, nC (show i < 2147483648 by omega), hg, m21, ↓shO_of hb.1.1]
        refine ⟨fun c => by omega, fun _ => ⟨inB_n (by omega) (by omega), ?_⟩⟩
        refine k33 hb (by simp; omega) (fun M1 hb1 o1 => ⟨rfl, ?_⟩)
        rw [a255 (by omega)] at hb1
        refine vc_X 30 _ _ _ _ _ _ _ ?_
        simp only [↓v70_0, ↓v70_1, ↓v70_4, ↓v70_5, ↓v70_6, ↓v70_9, ↓v70_12, ↓v70_13, ↓v70_14, ↓v70_15, ↓v70_17, ↓v70_20, ↓v70_21, ↓v70_24, ↓v70_25, ↓v70_26, ↓v70_27, ↓v70_28, ↓v70_29, ↓v70_32, ↓v70_33, ↓v70_34, ↓v70_37, ↓v70_38, ↓v70_39, ↓v70_41, ↓v70_44, ↓v70_47, ↓v70_50, ↓v70_51, ↓v70_53, ↓v70_54, ↓v70_57, ↓v70_58, ↓v70_59, ↓v70_61, ↓v70_64, ↓v70_65, ↓v70_68, ↓v70_69, ↓v70_71, ↓v70_72, ↓v70_75, ↓v70_78, ↓v70_81, ↓qI_c, ↓qL_c, ↓qR_c, ↓pA_o, ↓qC_i, ↓qC_r, ↓oA_s, ↓gI_0, ↓gI_1, ↓gI_2, ↓gI_3, ↓gI_4, ↓gI_5, ↓gI_6, ↓gI_7, ↓gI_8, ↓gI_9, ↓gI_10, ↓gR_0, ↓gR_1, ↓gR_2, ↓gR_3, ↓gR_4, ↓gR_5, ↓gR_6, ↓gR_7, ↓gR_8, ↓gR_9, ↓gR_10, ↓sL_0, ↓sL_1, ↓sL_2, ↓sL_3, ↓sL_4, ↓sL_5, ↓sL_6, ↓sL_7, ↓sL_8, ↓sL_9, ↓sL_10, ↓rrf_si, ↓rrf_sg, ↓shO_si, ↓shO_sg, ↓shO_sr, ↓shA_si, ↓shA_sg, ↓shA_sr, ↓pAs_0, ↓pAs_i, ↓pAs_r, stk_n, stk_i, stk_l, stk_r, List.nil_append, List.cons_append, true_and, and_true, true_or, or_true, Nat.zero_add, dp_s, Nat.reduceAdd, le8_0, le8_1, le8_2, le8_3, le8_4, le8_5, le8_6, le8_7, le8_8, Classical.not_not, aT40, aT41, aT42, aT44, aT54, aT58, aT59, rT54, rT58, rT59, reduceIte, Nat.reduceEqDiff, qn_42, qn_44, true_implies, not_true_eq_false, not_false_eq_true, false_implies, m22]
        refine vc_X 30 _ _ _ _ _ _ _ ?_
        simp only [↓v70_0, ↓v70_1, ↓v70_4, ↓v70_5, ↓v70_6, ↓v70_9, ↓v70_12, ↓v70_13, ↓v70_14, ↓v70_15, ↓v70_17, ↓v70_20, ↓v70_21, ↓v70_24, ↓v70_25, ↓v70_26, ↓v70_27, ↓v70_28, ↓v70_29, ↓v70_32, ↓v70_33, ↓v70_34, ↓v70_37, ↓v70_38, ↓v70_39, ↓v70_41, ↓v70_44, ↓v70_47, ↓v70_50, ↓v70_51, ↓v70_53, ↓v70_54, ↓v70_57, ↓v70_58, ↓v70_59, ↓v70_61, ↓v70_64, ↓v70_65, ↓v70_68, ↓v70_69, ↓v70_71, ↓v70_72, ↓v70_75, ↓v70_78, ↓v70_81, ↓qI_c, ↓qL_c, ↓qR_c, ↓pA_o, ↓qC_i, ↓qC_r, ↓oA_s, ↓gI_0, ↓gI_1, ↓gI_2, ↓gI_3, ↓gI_4, ↓gI_5, ↓gI_6, ↓gI_7, ↓gI_8, ↓gI_9, ↓gI_10, ↓gR_0, ↓gR_1, ↓gR_2, ↓gR_3, ↓gR_4, ↓gR_5, ↓gR_6, ↓gR_7, ↓gR_8, ↓gR_9, ↓gR_10, ↓sL_0, ↓sL_1, ↓sL_2, ↓sL_3, ↓sL_4, ↓sL_5, ↓sL_6, ↓sL_7, ↓sL_8, ↓sL_9, ↓sL_10, ↓rrf_si, ↓rrf_sg, ↓shO_si, ↓shO_sg, ↓shO_sr, ↓shA_si, ↓shA_sg, ↓shA_sr, ↓pAs_0, ↓pAs_i, ↓pAs_r, stk_n, stk_i, stk_l, stk_r, List.nil_append, List.cons_append, true_and, and_true, true_or, or_true, Nat.zero_add, dp_s, Nat.reduceAdd, le8_0, le8_1, le8_2, le8_3, le8_4, le8_5, le8_6, le8_7, le8_8, Classical.not_not, aT40, aT41, aT42, aT44, aT54, aT58, aT59, rT54, rT58, rT59, reduceIte, Nat.reduceEqDiff, qn_42, qn_44, true_implies, not_true_eq_false, not_false_eq_true, false_implies, ↓shO_of hb1.1.1]
        refine k33 hb1 (by simp; omega) (fun M2 hb2 o2 => ⟨rfl, ?_⟩)
        refine vc_X 30 _ _ _ _ _ _ _ ?_
        simp only [↓v70_0, ↓v70_1, ↓v70_4, ↓v70_5, ↓v70_6, ↓v70_9, ↓v70_12, ↓v70_13, ↓v70_14, ↓v70_15, ↓v70_17, ↓v70_20, ↓v70_21, ↓v70_24, ↓v70_25, ↓v70_26, ↓v70_27, ↓v70_28, ↓v70_29, ↓v70_32, ↓v70_33, ↓v70_34, ↓v70_37, ↓v70_38, ↓v70_39, ↓v70_41, ↓v70_44, ↓v70_47, ↓v70_50, ↓v70_51, ↓v70_53, ↓v70_54, ↓v70_57, ↓v70_58, ↓v70_59, ↓v70_61, ↓v70_64, ↓v70_65, ↓v70_68, ↓v70_69, ↓v70_71, ↓v70_72, ↓v70_75, ↓v70_78, ↓v70_81, ↓qI_c, ↓qL_c, ↓qR_c, ↓pA_o, ↓qC_i, ↓qC_r, ↓oA_s, ↓gI_0, ↓gI_1, ↓gI_2, ↓gI_3, ↓gI_4, ↓gI_5, ↓gI_6, ↓gI_7, ↓gI_8, ↓gI_9, ↓gI_10, ↓gR_0, ↓gR_1, ↓gR_2, ↓gR_3, ↓gR_4, ↓gR_5, ↓gR_6, ↓gR_7, ↓gR_8, ↓gR_9, ↓gR_10, ↓sL_0, ↓sL_1, ↓sL_2, ↓sL_3, ↓sL_4, ↓sL_5, ↓sL_6, ↓sL_7, ↓sL_8, ↓sL_9, ↓sL_10, ↓rrf_si, ↓rrf_sg, ↓shO_si, ↓shO_sg, ↓shO_sr, ↓shA_si, ↓shA_sg, ↓shA_sr, ↓pAs_0, ↓pAs_i, ↓pAs_r, stk_n, stk_i, stk_l, stk_r, List.nil_append, List.cons_append, true_and, and_true, true_or, or_true, Nat.zero_add, dp_s, Nat.reduceAdd, le8_0, le8_1, le8_2, le8_3, le8_4, le8_5, le8_6, le8_7, le8_8, Classical.not_not, aT40, aT41, aT42, aT44, aT54, aT58, aT59, rT54, rT58, rT59, reduceIte, Nat.reduceEqDiff, qn_42, qn_44, true_implies, not_true_eq_false, not_false_eq_true, false_implies, m22]
        refine vc_X 30 _ _ _ _ _ _ _ ?_
        simp only [↓v70_0, ↓v70_1, ↓v70_4, ↓v70_5, ↓v70_6, ↓v70_9, ↓v70_12, ↓v70_13, ↓v70_14, ↓v70_15, ↓v70_17, ↓v70_20, ↓v70_21, ↓v70_24, ↓v70_25, ↓v70_26, ↓v70_27, ↓v70_28, ↓v70_29, ↓v70_32, ↓v70_33, ↓v70_34, ↓v70_37, ↓v70_38, ↓v70_39, ↓v70_41, ↓v70_44, ↓v70_47, ↓v70_50, ↓v70_51, ↓v70_53, ↓v70_54, ↓v70_57, ↓v70_58, ↓v70_59, ↓v70_61, ↓v70_64, ↓v70_65, ↓v70_68, ↓v70_69, ↓v70_71, ↓v70_72, ↓v70_75, ↓v70_78, ↓v70_81, ↓qI_c, ↓qL_c, ↓qR_c, ↓pA_o, ↓qC_i, ↓qC_r, ↓oA_s, ↓gI_0, ↓gI_1, ↓gI_2, ↓gI_3, ↓gI_4, ↓gI_5, ↓gI_6, ↓gI_7, ↓gI_8, ↓gI_9, ↓gI_10, ↓gR_0, ↓gR_1, ↓gR_2, ↓gR_3, ↓gR_4, ↓gR_5, ↓gR_6, ↓gR_7, ↓gR_8, ↓gR_9, ↓gR_10, ↓sL_0, ↓sL_1, ↓sL_2, ↓sL_3, ↓sL_4, ↓sL_5, ↓sL_6, ↓sL_7, ↓sL_8, ↓sL_9, ↓sL_10, ↓rrf_si, ↓rrf_sg, ↓shO_si, ↓shO_sg, ↓shO_sr, ↓shA_si, ↓shA_sg, ↓shA_sr, ↓pAs_0, ↓pAs_i, ↓pAs_r, stk_n, stk_i, stk_l, stk_r, List.nil_append, List.cons_append, true_and, and_true, true_or, or_true, Nat.zero_add, dp_s, Nat.reduceAdd, le8_0, le8_1, le8_2, le8_3, le8_4, le8_5, le8_6, le8_7, le8_8, Classical.not_not, aT40, aT41, aT42, aT44, aT54, aT58, aT59, rT54, rT58, rT59, reduceIte, Nat.reduceEqDiff, qn_42, qn_44, true_implies, not_true_eq_false, not_false_eq_true, false_implies, ↓shO_of hb2.1.1]
        refine k33 hb2 (by simp; omega) (fun M3 hb3 o3 => ⟨rfl, ?_⟩)
        have o := (o1.trans o2 (fun _ x => x)).trans o3 (fun _ x => x)
        exact fin M3 _ (K M3 o) hb3 o
      · have hg : M.it s i = (if p = 255 then -2 else nI p) := hg
        rw [if_neg hp2] at hg
        have hp3 : p < 128 := by omega
        refine vc_X 30 _ _ _ _ _ _ _ ?_
        simp only [↓v70_0, ↓v70_1, ↓v70_4, ↓v70_5, ↓v70_6, ↓v70_9, ↓v70_12, ↓v70_13, ↓v70_14, ↓v70_15, ↓v70_17, ↓v70_20, ↓v70_21, ↓v70_24, ↓v70_25, ↓v70_26, ↓v70_27, ↓v70_28, ↓v70_29, ↓v70_32, ↓v70_33, ↓v70_34, ↓v70_37, ↓v70_38, ↓v70_39, ↓v70_41, ↓v70_44, ↓v70_47, ↓v70_50, ↓v70_51, ↓v70_53, ↓v70_54, ↓v70_57, ↓v70_58, ↓v70_59, ↓v70_61, ↓v70_64, ↓v70_65, ↓v70_68, ↓v70_69, ↓v70_71, ↓v70_72, ↓v70_75, ↓v70_78, ↓v70_81, ↓qI_c, ↓qL_c, ↓qR_c, ↓pA_o, ↓qC_i, ↓qC_r, ↓oA_s, ↓gI_0, ↓gI_1, ↓gI_2, ↓gI_3, ↓gI_4, ↓gI_5, ↓gI_6, ↓gI_7, ↓gI_8, ↓gI_9, ↓gI_10, ↓gR_0, ↓gR_1, ↓gR_2, ↓gR_3, ↓gR_4, ↓gR_5, ↓gR_6, ↓gR_7, ↓gR_8, ↓gR_9, ↓gR_10, ↓sL_0, ↓sL_1, ↓sL_2, ↓sL_3, ↓sL_4, ↓sL_5, ↓sL_6, ↓sL_7, ↓sL_8, ↓sL_9, ↓sL_10, ↓rrf_si, ↓rrf_sg, ↓shO_si, ↓shO_sg, ↓shO_sr, ↓shA_si, ↓shA_sg, ↓shA_sr, ↓pAs_0, ↓pAs_i, ↓pAs_r, stk_n, stk_i, stk_l, stk_r, List.nil_append, List.cons_append, true_and, and_true, true_or, or_true, Nat.zero_add, dp_s, Nat.reduceAdd, le8_0, le8_1, le8_2, le8_3, le8_4, le8_5, le8_6, le8_7, le8_8, Classical.not_not, aT40, aT41, aT42, aT44, aT54, aT58, aT59, rT54, rT58, rT59, reduceIte, Nat.reduceEqDiff, qn_42, qn_44, true_implies, not_true_eq_false, not_false_eq_true, false_implies, le_T, T_48, nT (show i < 2147483648 by omega), ↓shO_of b1, ↓rrf_of b2, ↓shA_of b3, nC (show i < 2147483648 by omega), hg, nI_nm (show p < 2147483648 by omega) (show (-1 : Int32).toInt < 0 by decide), ↓shO_of hb.1.1]
        refine ⟨fun c => by omega, fun _ => ⟨inB_n (by omega) (by omega), ?_⟩⟩
        refine k33 hb (by simp; omega) (fun M1 hb1 o1 => ⟨rfl, ?_⟩)
        rw [a255 (by omega)] at hb1
        refine vc_X 30 _ _ _ _ _ _ _ ?_
        simp only [↓v70_0, ↓v70_1, ↓v70_4, ↓v70_5, ↓v70_6, ↓v70_9, ↓v70_12, ↓v70_13, ↓v70_14, ↓v70_15, ↓v70_17, ↓v70_20, ↓v70_21, ↓v70_24, ↓v70_25, ↓v70_26, ↓v70_27, ↓v70_28, ↓v70_29, ↓v70_32, ↓v70_33, ↓v70_34, ↓v70_37, ↓v70_38, ↓v70_39, ↓v70_41, ↓v70_44, ↓v70_47, ↓v70_50, ↓v70_51, ↓v70_53, ↓v70_54, ↓v70_57, ↓v70_58, ↓v70_59, ↓v70_61, ↓v70_64, ↓v70_65, ↓v70_68, ↓v70_69, ↓v70_71, ↓v70_72, ↓v70_75, ↓v70_78, ↓v70_81, ↓qI_c, ↓qL_c, ↓qR_c, ↓pA_o, ↓qC_i, ↓qC_r, ↓oA_s, ↓gI_0, ↓gI_1, ↓gI_2, ↓gI_3, ↓gI_4, ↓gI_5, ↓gI_6, ↓gI_7, ↓gI_8, ↓gI_9, ↓gI_10, ↓gR_0, ↓gR_1, ↓gR_2, ↓gR_3, ↓gR_4, ↓gR_5, ↓gR_6, ↓gR_7, ↓gR_8, ↓gR_9, ↓gR_10, ↓sL_0, ↓sL_1, ↓sL_2, ↓sL_3, ↓sL_4, ↓sL_5, ↓sL_6, ↓sL_7, ↓sL_8, ↓sL_9, ↓sL_10, ↓rrf_si, ↓rrf_sg, ↓shO_si, ↓shO_sg, ↓shO_sr, ↓shA_si, ↓shA_sg, ↓shA_sr, ↓pAs_0, ↓pAs_i, ↓pAs_r, stk_n, stk_i, stk_l, stk_r, List.nil_append, List.cons_append, true_and, and_true, true_or, or_true, Nat.zero_add, dp_s, Nat.reduceAdd, le8_0, le8_1, le8_2, le8_3, le8_4, le8_5, le8_6, le8_7, le8_8, Classical.not_not, aT40, aT41, aT42, aT44, aT54, aT58, aT59, rT54, rT58, rT59, reduceIte, Nat.reduceEqDiff, qn_42, qn_44, true_implies, not_true_eq_false, not_false_eq_true, false_implies, nI_nm (show p < 2147483648 by omega) (show (-2 : Int32).toInt < 0 by decide)]
        refine ⟨by decide, ?_⟩
        rw [n_16, pk_div (by omega) (by omega) (by omega)]
        refine vc_X 30 _ _ _ _ _ _ _ ?_
        simp only [↓v70_0, ↓v70_1, ↓v70_4, ↓v70_5, ↓v70_6, ↓v70_9, ↓v70_12, ↓v70_13, ↓v70_14, ↓v70_15, ↓v70_17, ↓v70_20, ↓v70_21, ↓v70_24, ↓v70_25, ↓v70_26, ↓v70_27, ↓v70_28, ↓v70_29, ↓v70_32, ↓v70_33, ↓v70_34, ↓v70_37, ↓v70_38, ↓v70_39, ↓v70_41, ↓v70_44, ↓v70_47, ↓v70_50, ↓v70_51, ↓v70_53, ↓v70_54, ↓v70_57, ↓v70_58, ↓v70_59, ↓v70_61, ↓v70_64, ↓v70_65, ↓v70_68, ↓v70_69, ↓v70_71, ↓v70_72, ↓v70_75, ↓v70_78, ↓v70_81, ↓qI_c, ↓qL_c, ↓qR_c, ↓pA_o, ↓qC_i, ↓qC_r, ↓oA_s, ↓gI_0, ↓gI_1, ↓gI_2, ↓gI_3, ↓gI_4, ↓gI_5, ↓gI_6, ↓gI_7, ↓gI_8, ↓gI_9, ↓gI_10, ↓gR_0, ↓gR_1, ↓gR_2, ↓gR_3, ↓gR_4, ↓gR_5, ↓gR_6, ↓gR_7, ↓gR_8, ↓gR_9, ↓gR_10, ↓sL_0, ↓sL_1, ↓sL_2, ↓sL_3, ↓sL_4, ↓sL_5, ↓sL_6, ↓sL_7, ↓sL_8, ↓sL_9, ↓sL_10, ↓rrf_si, ↓rrf_sg, ↓shO_si, ↓shO_sg, ↓shO_sr, ↓shA_si, ↓shA_sg, ↓shA_sr, ↓pAs_0, ↓pAs_i, ↓pAs_r, stk_n, stk_i, stk_l, stk_r, List.nil_append, List.cons_append, true_and, and_true, true_or, or_true, Nat.zero_add, dp_s, Nat.reduceAdd, le8_0, le8_1, le8_2, le8_3, le8_4, le8_5, le8_6, le8_7, le8_8, Classical.not_not, aT40, aT41, aT42, aT44, aT54, aT58, aT59, rT54, rT58, rT59, reduceIte, Nat.reduceEqDiff, qn_42, qn_44, true_implies, not_true_eq_false, not_false_eq_true, false_implies, ↓shO_of hb1.1.1]
        refine k33 hb1 (by simp; omega) (fun M2 hb2 o2 => ⟨rfl, ?_⟩)
        rw [a255 (by omega)] at hb2
        refine vc_X 30 _ _ _ _ _ _ _ ?_
        simp only [↓v70_0, ↓v70_1, ↓v70_4, ↓v70_5, ↓v70_6, ↓v70_9, ↓v70_12, ↓v70_13, ↓v70_14, ↓v70_15, ↓v70_17, ↓v70_20, ↓v70_21, ↓v70_24, ↓v70_25, ↓v70_26, ↓v70_27, ↓v70_28, ↓v70_29, ↓v70_32, ↓v70_33, ↓v70_34, ↓v70_37, ↓v70_38, ↓v70_39, ↓v70_41, ↓v70_44, ↓v70_47, ↓v70_50, ↓v70_51, ↓v70_53, ↓v70_54, ↓v70_57, ↓v70_58, ↓v70_59, ↓v70_61, ↓v70_64, ↓v70_65, ↓v70_68, ↓v70_69, ↓v70_71, ↓v70_72, ↓v70_75, ↓v70_78, ↓v70_81, ↓qI_c, ↓qL_c, ↓qR_c, ↓pA_o, ↓qC_i, ↓qC_r, ↓oA_s, ↓gI_0, ↓gI_1, ↓gI_2, ↓gI_3, ↓gI_4, ↓gI_5, ↓gI_6, ↓gI_7, ↓gI_8, ↓gI_9, ↓gI_10, ↓gR_0, ↓gR_1, ↓gR_2, ↓gR_3, ↓gR_4, ↓gR_5, ↓gR_6, ↓gR_7, ↓gR_8, ↓gR_9, ↓gR_10, ↓sL_0, ↓sL_1, ↓sL_2, ↓sL_3, ↓sL_4, ↓sL_5, ↓sL_6, ↓sL_7, ↓sL_8, ↓sL_9, ↓sL_10, ↓rrf_si, ↓rrf_sg, ↓shO_si, ↓shO_sg, ↓shO_sr, ↓shA_si, ↓shA_sg, ↓shA_sr, ↓pAs_0, ↓pAs_i, ↓pAs_r, stk_n, stk_i, stk_l, stk_r, List.nil_append, List.cons_append, true_and, and_true, true_or, or_true, Nat.zero_add, dp_s, Nat.reduceAdd, le8_0, le8_1, le8_2, le8_3, le8_4, le8_5, le8_6, le8_7, le8_8, Classical.not_not, aT40, aT41, aT42, aT44, aT54, aT58, aT59, rT54, rT58, rT59, reduceIte, Nat.reduceEqDiff, qn_42, qn_44, true_implies, not_true_eq_false, not_false_eq_true, false_implies, nI_nm (show p < 2147483648 by omega) (show (-2 : Int32).toInt < 0 by decide)]
        refine ⟨by decide, ?_⟩
        rw [n_16, pk_rem (by omega) (by omega) (by omega)]
        refine vc_X 30 _ _ _ _ _ _ _ ?_
        simp only [↓v70_0, ↓v70_1, ↓v70_4, ↓v70_5, ↓v70_6, ↓v70_9, ↓v70_12, ↓v70_13, ↓v70_14, ↓v70_15, ↓v70_17, ↓v70_20, ↓v70_21, ↓v70_24, ↓v70_25, ↓v70_26, ↓v70_27, ↓v70_28, ↓v70_29, ↓v70_32, ↓v70_33, ↓v70_34, ↓v70_37, ↓v70_38, ↓v70_39, ↓v70_41, ↓v70_44, ↓v70_47, ↓v70_50, ↓v70_51, ↓v70_53, ↓v70_54, ↓v70_57, ↓v70_58, ↓v70_59, ↓v70_61, ↓v70_64, ↓v70_65, ↓v70_68, ↓v70_69, ↓v70_71, ↓v70_72, ↓v70_75, ↓v70_78, ↓v70_81, ↓qI_c, ↓qL_c, ↓qR_c, ↓pA_o, ↓qC_i, ↓qC_r, ↓oA_s, ↓gI_0, ↓gI_1, ↓gI_2, ↓gI_3, ↓gI_4, ↓gI_5, ↓gI_6, ↓gI_7, ↓gI_8, ↓gI_9, ↓gI_10, ↓gR_0, ↓gR_1, ↓gR_2, ↓gR_3, ↓gR_4, ↓gR_5, ↓gR_6, ↓gR_7, ↓gR_8, ↓gR_9, ↓gR_10, ↓sL_0, ↓sL_1, ↓sL_2, ↓sL_3, ↓sL_4, ↓sL_5, ↓sL_6, ↓sL_7, ↓sL_8, ↓sL_9, ↓sL_10, ↓rrf_si, ↓rrf_sg, ↓shO_si, ↓shO_sg, ↓shO_sr, ↓shA_si, ↓shA_sg, ↓shA_sr, ↓pAs_0, ↓pAs_i, ↓pAs_r, stk_n, stk_i, stk_l, stk_r, List.nil_append, List.cons_append, true_and, and_true, true_or, or_true, Nat.zero_add, dp_s, Nat.reduceAdd, le8_0, le8_1, le8_2, le8_3, le8_4, le8_5, le8_6, le8_7, le8_8, Classical.not_not, aT40, aT41, aT42, aT44, aT54, aT58, aT59, rT54, rT58, rT59, reduceIte, Nat.reduceEqDiff, qn_42, qn_44, true_implies, not_true_eq_false, not_false_eq_true, false_implies, ↓shO_of hb2.1.1]
        refine k33 hb2 (by simp; omega) (fun M3 hb3 o3 => ⟨rfl, ?_⟩)
        rw [a255 (by omega)] at hb3
        have o := (o1.trans o2 (fun _ x => x)).trans o3 (fun _ x => x)
        refine fin M3 _ (K M3 o) ?_ o
        rw [if_neg hp2, if_neg hp2]
        exact hb3
theorem k70 {d : Nat} {M : Mm} {k : mQ} {a s f c N : Nat} {sp : Nat → Option Nat} {pl : Option Nat} (n1 : a ≠ f) (n2 : a ≠ c) (n3 : s ≠ f) (n4 : s ≠ c) (hN : 145 ≤ N) (h : EnC M a s sp pl) (hb : By M f c N) (hk : ∀ M', BC M' f c N ((tbL sp).map nI) → On [f, c] M M' → k none M') : XC (d + 2) 70 [.inr (some a), .inr (some f)] M k := by
  refine xc ?_
  show X (d + 1) 70 0 [some (.inr (some a)), some (.inr (some f)), none, none] [] M k
  refine vc_X 30 _ _ _ _ _ _ _ ?_
  simp only [↓v70_0, ↓v70_1, ↓v70_4, ↓v70_5, ↓v70_6, ↓v70_9, ↓v70_12, ↓v70_13, ↓v70_14, ↓v70_15, ↓v70_17, ↓v70_20, ↓v70_21, ↓v70_24, ↓v70_25, ↓v70_26, ↓v70_27, ↓v70_28, ↓v70_29, ↓v70_32, ↓v70_33, ↓v70_34, ↓v70_37, ↓v70_38, ↓v70_39, ↓v70_41, ↓v70_44, ↓v70_47, ↓v70_50, ↓v70_51, ↓v70_53, ↓v70_54, ↓v70_57, ↓v70_58, ↓v70_59, ↓v70_61, ↓v70_64, ↓v70_65, ↓v70_68, ↓v70_69, ↓v70_71, ↓v70_72, ↓v70_75, ↓v70_78, ↓v70_81, ↓qI_c, ↓qL_c, ↓qR_c, ↓pA_o, ↓qC_i, ↓qC_r, ↓oA_s, ↓gI_0, ↓gI_1, ↓gI_2, ↓gI_3, ↓gI_4, ↓gI_5, ↓gI_6, ↓gI_7, ↓gI_8, ↓gI_9, ↓gI_10, ↓gR_0, ↓gR_1, ↓gR_2, ↓gR_3, ↓gR_4, ↓gR_5, ↓gR_6, ↓gR_7, ↓gR_8, ↓gR_9, ↓gR_10, ↓sL_0, ↓sL_1, ↓sL_2, ↓sL_3, ↓sL_4, ↓sL_5, ↓sL_6, ↓sL_7, ↓sL_8, ↓sL_9, ↓sL_10, ↓rrf_si, ↓rrf_sg, ↓shO_si, ↓shO_sg, ↓shO_sr, ↓shA_si, ↓shA_sg, ↓shA_sr, ↓pAs_0, ↓pAs_i, ↓pAs_r, stk_n, stk_i, stk_l, stk_r, List.nil_append, List.cons_append, true_and, and_true, true_or, or_true, Nat.zero_add, dp_s, Nat.reduceAdd, le8_0, le8_1, le8_2, le8_3, le8_4, le8_5, le8_6, le8_7, le8_8, Classical.not_not, aT40, aT41, aT42, aT44, aT54, aT58, aT59, rT54, rT58, rT59, reduceIte, Nat.reduceEqDiff, qn_42, qn_44, true_implies, not_true_eq_false, not_false_eq_true, false_implies, ↓shO_of hb.1]
  refine k32 hb (fun M1 h1 o1 => ⟨rfl, ?_⟩)
  have h' := h.keep o1 (by simp [n1]) (by simp [n3])
  refine vc_X 30 _ _ _ _ _ _ _ ?_
  simp only [↓v70_0, ↓v70_1, ↓v70_4, ↓v70_5, ↓v70_6, ↓v70_9, ↓v70_12, ↓v70_13, ↓v70_14, ↓v70_15, ↓v70_17, ↓v70_20, ↓v70_21, ↓v70_24, ↓v70_25, ↓v70_26, ↓v70_27, ↓v70_28, ↓v70_29, ↓v70_32, ↓v70_33, ↓v70_34, ↓v70_37, ↓v70_38, ↓v70_39, ↓v70_41, ↓v70_44, ↓v70_47, ↓v70_50, ↓v70_51, ↓v70_53, ↓v70_54, ↓v70_57, ↓v70_58, ↓v70_59, ↓v70_61, ↓v70_64, ↓v70_65, ↓v70_68, ↓v70_69, ↓v70_71, ↓v70_72, ↓v70_75, ↓v70_78, ↓v70_81, ↓qI_c, ↓qL_c, ↓qR_c, ↓pA_o, ↓qC_i, ↓qC_r, ↓oA_s, ↓gI_0, ↓gI_1, ↓gI_2, ↓gI_3, ↓gI_4, ↓gI_5, ↓gI_6, ↓gI_7, ↓gI_8, ↓gI_9, ↓gI_10, ↓gR_0, ↓gR_1, ↓gR_2, ↓gR_3, ↓gR_4, ↓gR_5, ↓gR_6, ↓gR_7, ↓gR_8, ↓gR_9, ↓gR_10, ↓sL_0, ↓sL_1, ↓sL_2, ↓sL_3, ↓sL_4, ↓sL_5, ↓sL_6, ↓sL_7, ↓sL_8, ↓sL_9, ↓sL_10, ↓rrf_si, ↓rrf_sg, ↓shO_si, ↓shO_sg, ↓shO_sr, ↓shA_si, ↓shA_sg, ↓shA_sr, ↓pAs_0, ↓pAs_i, ↓pAs_r, stk_n, stk_i, stk_l, stk_r, List.nil_append, List.cons_append, true_and, and_true, true_or, or_true, Nat.zero_add, dp_s, Nat.reduceAdd, le8_0, le8_1, le8_2, le8_3, le8_4, le8_5, le8_6, le8_7, le8_8, Classical.not_not, aT40, aT41, aT42, aT44, aT54, aT58, aT59, rT54, rT58, rT59, reduceIte, Nat.reduceEqDiff, qn_42, qn_44, true_implies, not_true_eq_false, not_false_eq_true, false_implies, ↓shO_of h'.1.1, ↓shO_of h1.1.1, h'.2.2.2.1]
  have hc := nE_le sp 48
  have e0 : cnt (fun k => (sp k).isSome) 48 = nE sp 48 := by unfold nE; with_reducible rfl
  rw [e0]
  have e1 : tbL sp = [nE sp 48] ++ spl sp 48 := by unfold tbL; rw [List.singleton_append]
  rw [e1] at hk
  generalize nE sp 48 = n0 at hk hc
  refine k33 h1 (by simp; omega) (fun M2 h2 o2 => ⟨rfl, ?_⟩)
  rw [a255 (by omega)] at h2
  have h'' := h'.keep o2 (by simp [n1, n2]) (by simp [n3, n4])
  refine vc_X 30 _ _ _ _ _ _ _ ?_
  simp only [↓v70_0, ↓v70_1, ↓v70_4, ↓v70_5, ↓v70_6, ↓v70_9, ↓v70_12, ↓v70_13, ↓v70_14, ↓v70_15, ↓v70_17, ↓v70_20, ↓v70_21, ↓v70_24, ↓v70_25, ↓v70_26, ↓v70_27, ↓v70_28, ↓v70_29, ↓v70_32, ↓v70_33, ↓v70_34, ↓v70_37, ↓v70_38, ↓v70_39, ↓v70_41, ↓v70_44, ↓v70_47, ↓v70_50, ↓v70_51, ↓v70_53, ↓v70_54, ↓v70_57, ↓v70_58, ↓v70_59, ↓v70_61, ↓v70_64, ↓v70_65, ↓v70_68, ↓v70_69, ↓v70_71, ↓v70_72, ↓v70_75, ↓v70_78, ↓v70_81, ↓qI_c, ↓qL_c, ↓qR_c, ↓pA_o, ↓qC_i, ↓qC_r, ↓oA_s, ↓gI_0, ↓gI_1, ↓gI_2, ↓gI_3, ↓gI_4, ↓gI_5, ↓gI_6, ↓gI_7, ↓gI_8, ↓gI_9, ↓gI_10, ↓gR_0, ↓gR_1, ↓gR_2, ↓gR_3, ↓gR_4, ↓gR_5, ↓gR_6, ↓gR_7, ↓gR_8, ↓gR_9, ↓gR_10, ↓sL_0, ↓sL_1, ↓sL_2, ↓sL_3, ↓sL_4, ↓sL_5, ↓sL_6, ↓sL_7, ↓sL_8, ↓sL_9, ↓sL_10, ↓rrf_si, ↓rrf_sg, ↓shO_si, ↓shO_sg, ↓shO_sr, ↓shA_si, ↓shA_sg, ↓shA_sr, ↓pAs_0, ↓pAs_i, ↓pAs_r, stk_n, stk_i, stk_l, stk_r, List.nil_append, List.cons_append, true_and, and_true, true_or, or_true, Nat.zero_add, dp_s, Nat.reduceAdd, le8_0, le8_1, le8_2, le8_3, le8_4, le8_5, le8_6, le8_7, le8_8, Classical.not_not, aT40, aT41, aT42, aT44, aT54, aT58, aT59, rT54, rT58, rT59, reduceIte, Nat.reduceEqDiff, qn_42, qn_44, true_implies, not_true_eq_false, not_false_eq_true, false_implies]
  have h3 : BC M2 f c N (([n0] ++ spl sp 0).map nI) := h2
  exact lop70 (h0 := [n0]) n1 n2 n3 n4 (by simp; omega) 48 0 M2 _ (by omega) h'' h3 (fun M3 h3 o3 => hk M3 h3 ((o1.mono (by simp)).trans (o2.trans o3 (fun _ x => x)) (fun _ x => x)))
