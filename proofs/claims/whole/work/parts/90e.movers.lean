/-! findMovers, tryReclaim, moveObject -/
def mvP (ch : Nat → Option Nat) (tb : TbT) (e n : Nat) : List Nat := (List.range n).filterMap (fun b => fst_ (isAt ch tb (16 * e + b)) 0 48)
theorem mvP_s (ch : Nat → Option Nat) (tb : TbT) (e n : Nat) : mvP ch tb e (n + 1) = mvP ch tb e n ++ (fst_ (isAt ch tb (16 * e + n)) 0 48).toList := by
  unfold mvP
  rw [List.range_succ, List.filterMap_append]
  congr 1
theorem mvP_le (ch : Nat → Option Nat) (tb : TbT) (e n : Nat) : (mvP ch tb e n).length ≤ n := by
  unfold mvP
  exact Nat.le_trans (List.length_filterMap_le _ _) (by rw [List.length_range]; exact Nat.le_refl _)
def MvC (M : Mm) (b : Nat) (l : List Nat) : Prop := ∀ j v, l[j]? = some v → M.it (b + 276) j = nI v
section
variable {D : DT} {Q : QT} {C : List Nat × Nat} {L : (Nat → Nat) × Option Nat} {I : IT} {T : List Nat × List Nat} {E : (Nat → Option Nat) × (Nat → Bool)} {F : FT}
theorem k84 {d : Nat} {M : Mm} {k : mQ} {b e : Nat} (h : CP M b D Q C L I T E F) (he : e < 8) (hk : ∀ M', MvC M' b (mvP I.2.1 I.2.2 e 16) → On [b + 276] M M' → k (some (.inl (nI (mvP I.2.1 I.2.2 e 16).length))) M') : XC (d + 5) 84 [.inr (some b), .inl (nI e)] M k := by
  have lop : ∀ (m i : Nat) (M1 : Mm) (z : Option mL), i + m = 16 → On [b + 276] M M1 → MvC M1 b (mvP I.2.1 I.2.2 e i) → X (d + 4) 84 4 [some (.inr (some b)), some (.inl (nI e)), some (.inl (nI (mvP I.2.1 I.2.2 e i).length)), some (.inl (nI i)), z] [] M1 k := by
    intro m
    induction m with
    | zero =>
      intro i M1 z hi o hm
      have e1 : i = 16 := by omega
      subst e1
      refine vc_X 30 _ _ _ _ _ _ _ ?_
      simp only [↓v84_0, ↓v84_1, ↓v84_2, ↓v84_3, ↓v84_4, ↓v84_5, ↓v84_7, ↓v84_10, ↓v84_11, ↓v84_14, ↓v84_15, ↓v84_17, ↓v84_18, ↓v84_19, ↓v84_20, ↓v84_23, ↓v84_25, ↓v84_27, ↓v84_28, ↓v84_31, ↓v84_32, ↓v84_33, ↓v84_36, ↓v84_37, ↓v84_40, ↓v84_41, ↓v84_44, ↓v84_45, ↓v84_47, ↓v84_48, ↓v84_51, ↓v84_54, ↓v84_57, ↓v84_58, ↓qI_c, ↓qL_c, ↓qR_c, ↓pA_o, ↓qC_i, ↓qC_r, ↓oA_s, ↓gI_0, ↓gI_1, ↓gI_2, ↓gI_3, ↓gI_4, ↓gI_5, ↓gI_6, ↓gI_7, ↓gI_8, ↓gI_9, ↓gI_10, ↓gR_0, ↓gR_1, ↓gR_2, ↓gR_3, ↓gR_4, ↓gR_5, ↓gR_6, ↓gR_7, ↓gR_8, ↓gR_9, ↓gR_10, ↓sL_0, ↓sL_1, ↓sL_2, ↓sL_3, ↓sL_4, ↓sL_5, ↓sL_6, ↓sL_7, ↓sL_8, ↓sL_9, ↓sL_10, ↓rrf_si, ↓rrf_sg, ↓shO_si, ↓shO_sg, ↓shO_sr, ↓shA_si, ↓shA_sg, ↓shA_sr, ↓pAs_0, ↓pAs_i, ↓pAs_r, stk_n, stk_i, stk_l, stk_r, List.nil_append, List.cons_append, true_and, and_true, true_or, or_true, Nat.zero_add, dp_s, Nat.reduceAdd, le8_0, le8_1, le8_2, le8_3, le8_4, le8_5, le8_6, le8_7, le8_8, Classical.not_not, aT40, aT41, aT42, aT44, aT54, aT58, aT59, rT54, rT58, rT59, reduceIte, Nat.reduceEqDiff, qn_42, qn_44, true_implies, not_true_eq_false, not_false_eq_true, false_implies, le_T, T_16, nT (show 16 < 2147483648 by omega)]
      exact ⟨fun _ => hk M1 hm o, fun c => absurd (by decide) c⟩
    | succ m ih =>
      intro i M1 z hi o hm
      have h1 : CP M1 b D Q C L I T E F := h.upZn o (by simp [PZ])
      have hx := h1.2.2.2.2.2.1
      have hl := mvP_le I.2.1 I.2.2 e i
      have e3 : nI e * 16 + nI i = nI (16 * e + i) := by rw [n_16, pk_mul, nI_add]; congr 1; omega
      have ih1 := ih (i + 1)
      rw [mvP_s] at ih1
      refine vc_X 30 _ _ _ _ _ _ _ ?_
      simp only [↓v84_0, ↓v84_1, ↓v84_2, ↓v84_3, ↓v84_4, ↓v84_5, ↓v84_7, ↓v84_10, ↓v84_11, ↓v84_14, ↓v84_15, ↓v84_17, ↓v84_18, ↓v84_19, ↓v84_20, ↓v84_23, ↓v84_25, ↓v84_27, ↓v84_28, ↓v84_31, ↓v84_32, ↓v84_33, ↓v84_36, ↓v84_37, ↓v84_40, ↓v84_41, ↓v84_44, ↓v84_45, ↓v84_47, ↓v84_48, ↓v84_51, ↓v84_54, ↓v84_57, ↓v84_58, ↓qI_c, ↓qL_c, ↓qR_c, ↓pA_o, ↓qC_i, ↓qC_r, ↓oA_s, ↓gI_0, ↓gI_1, ↓gI_2, ↓gI_3, ↓gI_4, ↓gI_5, ↓gI_6, ↓gI_7, ↓gI_8, ↓gI_9, ↓gI_10, ↓gR_0, ↓gR_1, ↓gR_2, ↓gR_3, ↓gR_4, ↓gR_5, ↓gR_6, ↓gR_7, ↓gR_8, ↓gR_9, ↓gR_10, ↓sL_0, ↓sL_1, ↓sL_2, ↓sL_3, ↓sL_4, ↓sL_5, ↓sL_6, ↓sL_7, ↓sL_8, ↓sL_9, ↓sL_10, ↓rrf_si, ↓rrf_sg, ↓shO_si, ↓shO_sg, ↓shO_sr, ↓shA_si, ↓shA_sg, ↓shA_sr, ↓pAs_0, ↓pAs_i, ↓pAs_r, stk_n, stk_i, stk_l, stk_r, List.nil_append, List.cons_append, true_and, and_true, true_or, or_true, Nat.zero_add, dp_s, Nat.reduceAdd, le8_0, le8_1, le8_2, le8_3, le8_4, le8_5, le8_6, le8_7, le8_8, Classical.not_not, aT40, aT41, aT42, aT44, aT54, aT58, aT59, rT54, rT58, rT59, reduceIte, Nat.reduceEqDiff, qn_42, qn_44, true_implies, not_true_eq_false, not_false_eq_true, false_implies, le_T, T_16, nT (show i < 2147483648 by omega), ↓shO_of h1.1.1.1, ↓rrf_of h1.1.1.2.2.2.2.2.2, e3, ↓shO_of hx.1.1]
      refine ⟨fun c => by omega, fun _ => k85 hx (by omega) ⟨_, rfl, ?_⟩⟩
      cases hf : fst_ (isAt I.2.1 I.2.2 (16 * e + i)) 0 48 with
      | none =>
        rw [hf] at ih1
        rw [show (none : Option Nat).toList = [] from rfl, List.append_nil] at ih1
        refine vc_X 30 _ _ _ _ _ _ _ ?_
        simp only [↓v84_0, ↓v84_1, ↓v84_2, ↓v84_3, ↓v84_4, ↓v84_5, ↓v84_7, ↓v84_10, ↓v84_11, ↓v84_14, ↓v84_15, ↓v84_17, ↓v84_18, ↓v84_19, ↓v84_20, ↓v84_23, ↓v84_25, ↓v84_27, ↓v84_28, ↓v84_31, ↓v84_32, ↓v84_33, ↓v84_36, ↓v84_37, ↓v84_40, ↓v84_41, ↓v84_44, ↓v84_45, ↓v84_47, ↓v84_48, ↓v84_51, ↓v84_54, ↓v84_57, ↓v84_58, ↓qI_c, ↓qL_c, ↓qR_c, ↓pA_o, ↓qC_i, ↓qC_r, ↓oA_s, ↓gI_0, ↓gI_1, ↓gI_2, ↓gI_3, ↓gI_4, ↓gI_5, ↓gI_6, ↓gI_7, ↓gI_8, ↓gI_9, ↓gI_10, ↓gR_0, ↓gR_1, ↓gR_2, ↓gR_3, ↓gR_4, ↓gR_5, ↓gR_6, ↓gR_7, ↓gR_8, ↓gR_9, ↓gR_10, ↓sL_0, ↓sL_1, ↓sL_2, ↓sL_3, ↓sL_4, ↓sL_5, ↓sL_6, ↓sL_7, ↓sL_8, ↓sL_9, ↓sL_10, ↓rrf_si, ↓rrf_sg, ↓shO_si, ↓shO_sg, ↓shO_sr, ↓shA_si, ↓shA_sg, ↓shA_sr, ↓pAs_0, ↓pAs_i, ↓pAs_r, stk_n, stk_i, stk_l, stk_r, List.nil_append, List.cons_append, true_and, and_true, true_or, or_true, Nat.zero_add, dp_s, Nat.reduceAdd, le8_0, le8_1, le8_2, le8_3, le8_4, le8_5, le8_6, le8_7, le8_8, Classical.not_not, aT40, aT41, aT42, aT44, aT54, aT58, aT59, rT54, rT58, rT59, reduceIte, Nat.reduceEqDiff, qn_42, qn_44, true_implies, not_true_eq_false, not_false_eq_true, false_implies, oI_none, m11, nI_1]
        exact ih1 M1 _ (by omega) o hm
      | some key =>
        rw [hf] at ih1
        rw [show (some key : Option Nat).toList = [key] from rfl] at ih1
        have hk48 := (fst_spec _ _ _ _ hf).2.2
        have e4 : oI (some key) = nI key := rfl
        have e5 : (mvP I.2.1 I.2.2 e i ++ [key]).length = (mvP I.2.1 I.2.2 e i).length + 1 := by rw [List.length_append]; rfl
        rw [e5] at ih1
        refine vc_X 40 _ _ _ _ _ _ _ ?_
        simp only [↓v84_0, ↓v84_1, ↓v84_2, ↓v84_3, ↓v84_4, ↓v84_5, ↓v84_7, ↓v84_10, ↓v84_11, ↓v84_14, ↓v84_15, ↓v84_17, ↓v84_18, ↓v84_19, ↓v84_20, ↓v84_23, ↓v84_25, ↓v84_27, ↓v84_28, ↓v84_31, ↓v84_32, ↓v84_33, ↓v84_36, ↓v84_37, ↓v84_40, ↓v84_41, ↓v84_44, ↓v84_45, ↓v84_47, ↓v84_48, ↓v84_51, ↓v84_54, ↓v84_57, ↓v84_58, ↓qI_c, ↓qL_c, ↓qR_c, ↓pA_o, ↓qC_i, ↓qC_r, ↓oA_s, ↓gI_0, ↓gI_1, ↓gI_2, ↓gI_3, ↓gI_4, ↓gI_5, ↓gI_6, ↓gI_7, ↓gI_8, ↓gI_9, ↓gI_10, ↓gR_0, ↓gR_1, ↓gR_2, ↓gR_3, ↓gR_4, ↓gR_5, ↓gR_6, ↓gR_7, ↓gR_8, ↓gR_9, ↓gR_10, ↓sL_0, ↓sL_1, ↓sL_2, ↓sL_3, ↓sL_4, ↓sL_5, ↓sL_6, ↓sL_7, ↓sL_8, ↓sL_9, ↓sL_10, ↓rrf_si, ↓rrf_sg, ↓shO_si, ↓shO_sg, ↓shO_sr, ↓shA_si, ↓shA_sg, ↓shA_sr, ↓pAs_0, ↓pAs_i, ↓pAs_r, stk_n, stk_i, stk_l, stk_r, List.nil_append, List.cons_append, true_and, and_true, true_or, or_true, Nat.zero_add, dp_s, Nat.reduceAdd, le8_0, le8_1, le8_2, le8_3, le8_4, le8_5, le8_6, le8_7, le8_8, Classical.not_not, aT40, aT41, aT42, aT44, aT54, aT58, aT59, rT54, rT58, rT59, reduceIte, Nat.reduceEqDiff, qn_42, qn_44, true_implies, not_true_eq_false, not_false_eq_true, false_implies, e4, nI_nm (show key < 2147483648 by omega) (show ((-1 : Int32)).toInt < 0 by decide), ↓shO_of h1.1.1.1, ↓rrf_of h1.1.2.1.2.2.2.2.2.1, ↓shA_of h1.1.2.2.1.2.1, le_T, T_16, nT (show (mvP I.2.1 I.2.2 e i).length < 2147483648 by omega), nT (show 16 < 2147483648 by omega), nC (show (mvP I.2.1 I.2.2 e i).length < 2147483648 by omega), nI_1]
        refine ⟨fun c => by omega, fun _ => ⟨inB_n (by omega) (by omega), ?_⟩⟩
        refine ih1 _ _ (by omega) (o.put (by simp)) (fun j v hj => ?_)
        rw [si_it]
        by_cases cj : j = (mvP I.2.1 I.2.2 e i).length
        · rw [if_pos ⟨rfl, cj⟩]
          subst cj
          rw [List.getElem?_append_right (Nat.le_refl _), Nat.sub_self] at hj
          cases hj
          rfl
        · rw [if_neg (fun q => cj q.2)]
          have hjl := (List.getElem?_eq_some_iff.mp hj).1
          rw [e5] at hjl
          rw [List.getElem?_append_left (by omega)] at hj
          exact hm j v hj
  refine xc ?_
  show X (d + 4) 84 0 [some (.inr (some b)), some (.inl (nI e)), none, none, none] [] M k
  refine vc_X 30 _ _ _ _ _ _ _ ?_
  simp only [↓v84_0, ↓v84_1, ↓v84_2, ↓v84_3, ↓v84_4, ↓v84_5, ↓v84_7, ↓v84_10, ↓v84_11, ↓v84_14, ↓v84_15, ↓v84_17, ↓v84_18, ↓v84_19, ↓v84_20, ↓v84_23, ↓v84_25, ↓v84_27, ↓v84_28, ↓v84_31, ↓v84_32, ↓v84_33, ↓v84_36, ↓v84_37, ↓v84_40, ↓v84_41, ↓v84_44, ↓v84_45, ↓v84_47, ↓v84_48, ↓v84_51, ↓v84_54, ↓v84_57, ↓v84_58, ↓qI_c, ↓qL_c, ↓qR_c, ↓pA_o, ↓qC_i, ↓qC_r, ↓oA_s, ↓gI_0, ↓gI_1, ↓gI_2, ↓gI_3, ↓gI_4, ↓gI_5, ↓gI_6, ↓gI_7, ↓gI_8, ↓gI_9, ↓gI_10, ↓gR_0, ↓gR_1, ↓gR_2, ↓gR_3, ↓gR_4, ↓gR_5, ↓gR_6, ↓gR_7, ↓gR_8, ↓gR_9, ↓gR_10, ↓sL_0, ↓sL_1, ↓sL_2, ↓sL_3, ↓sL_4, ↓sL_5, ↓sL_6, ↓sL_7, ↓sL_8, ↓sL_9, ↓sL_10, ↓rrf_si, ↓rrf_sg, ↓shO_si, ↓shO_sg, ↓shO_sr, ↓shA_si, ↓shA_sg, ↓shA_sr, ↓pAs_0, ↓pAs_i, ↓pAs_r, stk_n, stk_i, stk_l, stk_r, List.nil_append, List.cons_append, true_and, and_true, true_or, or_true, Nat.zero_add, dp_s, Nat.reduceAdd, le8_0, le8_1, le8_2, le8_3, le8_4, le8_5, le8_6, le8_7, le8_8, Classical.not_not, aT40, aT41, aT42, aT44, aT54, aT58, aT59, rT54, rT58, rT59, reduceIte, Nat.reduceEqDiff, qn_42, qn_44, true_implies, not_true_eq_false, not_false_eq_true, false_implies]
  exact lop 16 0 M _ (by omega) On.rf_ (fun j v hj => by simp [mvP] at hj)
end
/-- room for one after another -/
def tk1 (L : (Nat → Nat) × Option Nat) (n : Nat) : Option ((Nat → Nat) × Option Nat) := match tkE L.1 L.2 n 1 with
  | some e => some (upn L.1 e (L.1 e + n), some e)
  | none => none
def trF : List Nat → (Nat → Nat) × Option Nat → Option ((Nat → Nat) × Option Nat)
  | [], L => some L
  | n :: l, L => match tk1 L n with
    | some L2 => trF l L2
    | none => none
def sumN : List Nat → Nat
  | [] => 0
  | n :: l => n + sumN l
/-- what tryReclaim tells -/
def trA (o : Option ((Nat → Nat) × Option Nat)) (wt : Bool) (tn all : Nat) : Int32 := match o with
  | none => -1
  | some L => if wt then (match tk1 L tn with
    | some _ => nI (all + tn)
    | none => -1) else nI all
section
variable {D : DT} {Q : QT} {C : List Nat × Nat} {L : (Nat → Nat) × Option Nat} {I : IT} {T : List Nat × List Nat} {E : (Nat → Option Nat) × (Nat → Bool)} {F : FT}
theorem k47t {d : Nat} {M : Mm} {k : mQ} {a p n : Nat} {L : (Nat → Nat) × Option Nat} (h : LaC M a p L.1 L.2) (hn : n < 1000) (h0 : tk1 L n = none → k (some (.inl (-1))) M) (h1 : ∀ L2 M' x, tk1 L n = some L2 → LaC M' a p L2.1 L2.2 → On [a, p] M M' → x < 1000 → k (some (.inl (nI x))) M') : XC (d + 4) 47 [.inr (some a), .inl (nI n), .inl (nI 1)] M k := by
  refine k47 (l := 1) h hn (by omega) (fun c => h0 ?_) (fun e M' c h' o' => h1 (upn L.1 e (L.1 e + n), some e) M' _ ?_ h' o' ?_)
  · unfold tk1; rw [c]
  · unfold tk1; rw [c]
  · have h8 := h'.2.2.2 e rfl
    have h9 := (h.2.1 e h8).2
    omega
end
