/-! the disk's turn: land, issue, settle -/
section
variable {D : DT} {Q : QT} {C : List Nat × Nat} {L : (Nat → Nat) × Option Nat} {I : IT} {T : List Nat × List Nat} {E : (Nat → Option Nat) × (Nat → Bool)} {F : FT}
def dkF (dk : Nat → Nat) (x : WT) (n : Nat) : Nat → Nat := fun j => if 16 * x.2.2.1 ≤ j ∧ j < 16 * x.2.2.1 + n then byN x (j - 16 * x.2.2.1) else dk j
theorem CP.upDk {M M' : Mm} {b : Nat} {dk : Nat → Nat} (h : CP M b D Q C L I T E F) (n : ∀ j, j < 2048 → M'.it (b + 2) j = nI (dk j) ∧ dk j < 256) (o : On [b + 2] M M') : CP M' b (dk, D.2) Q C L I T E F := by
  obtain ⟨h1, h2, h3, h4, h5, h6, h7, h8, h9⟩ := h
  have o2 : Of (fun y => y = b + 2) M M' := o.of (fun x hx => by simpa using hx)
  have g : Ag (fun y => ¬ y = b + 2) M M' := o2.ag (fun _ h => h)
  have hz : M.sz ≤ M'.sz := by rw [o.2.1]; exact Nat.le_refl _
  refine ⟨h1.ag g (fun x hx => by omega) hz, ⟨⟨h2.1.1.keep o, n⟩, ?_, ?_, h2.2.2.2.1.ag g (fun x hx => by omega) hz, fun a ha => (h2.2.2.2.2 a ha).ag g (fun x hx => by omega) hz⟩, h3.ag g (fun x hx => by omega) hz, ⟨h4.1.ag g (by omega) (by omega), h4.2⟩, h5.ag g (by omega) (by omega), h6.ag g (fun x hx => by unfold PX at hx; omega), h7.ag g (fun x hx => by omega), h8.ag g (fun x hx => by omega), h9.ag g (fun x hx => by omega) hz⟩
  · rw [o.2.2.2.2.1]; exact h2.2.1
  · rw [o.2.2.2.2.1]; exact h2.2.2.1
theorem k96b {d : Nat} {M : Mm} {k : mQ} {b p : Nat} {x : WT} (h : CP M b D Q C L I T E F) (hw : okW Q.2.2) (hx : Q.2.2[p]? = some x) (hr : x.2.2.2.1 = none) (ht : x.2.2.1 < 128) (hk : ∀ M', CP M' b (dkF D.1 x 16, D.2) Q C L I T E F → On [b + 2] M M' → k none M') : XC (d + 2) 96 [.inr (some (b + 1)), .inr (some (b + 7 + 2 + 2 * Q.1 p))] M k := by
  have hp : p < 120 := by have := (List.getElem?_eq_some_iff.mp hx).1; have := h.2.2.1.1.2.2.1; omega
  have hpm := (h.2.2.1.1.1.2.2.2.1 p hp).2
  have hb := hw p x hx ht
  have lop : ∀ (m i : Nat) (M1 : Mm), i + m = 16 → CP M1 b (dkF D.1 x i, D.2) Q C L I T E F → On [b + 2] M M1 → X (d + 1) 96 35 [some (.inr (some (b + 1))), some (.inr (some (b + 7 + 2 + 2 * Q.1 p))), some (.inl (nI i))] [] M1 k := by
    intro m
    induction m with
    | zero =>
      intro i M1 hi h1 o1
      have e : i = 16 := by omega
      subst e
      refine vc_X 20 _ _ _ _ _ _ _ ?_
      simp only [↓v96_0, ↓v96_1, ↓v96_4, ↓v96_7, ↓v96_8, ↓v96_11, ↓v96_12, ↓v96_15, ↓v96_18, ↓v96_19, ↓v96_22, ↓v96_23, ↓v96_26, ↓v96_27, ↓v96_30, ↓v96_33, ↓v96_34, ↓v96_35, ↓v96_36, ↓v96_38, ↓v96_41, ↓v96_42, ↓v96_45, ↓v96_46, ↓v96_49, ↓v96_51, ↓v96_52, ↓v96_53, ↓v96_54, ↓v96_55, ↓v96_56, ↓v96_59, ↓v96_60, ↓v96_63, ↓v96_66, ↓qI_c, ↓qL_c, ↓qR_c, ↓pA_o, ↓qC_i, ↓qC_r, ↓oA_s, ↓gI_0, ↓gI_1, ↓gI_2, ↓gI_3, ↓gI_4, ↓gI_5, ↓gI_6, ↓gI_7, ↓gI_8, ↓gI_9, ↓gI_10, ↓gR_0, ↓gR_1, ↓gR_2, ↓gR_3, ↓gR_4, ↓gR_5, ↓gR_6, ↓gR_7, ↓gR_8, ↓gR_9, ↓gR_10, ↓sL_0, ↓sL_1, ↓sL_2, ↓sL_3, ↓sL_4, ↓sL_5, ↓sL_6, ↓sL_7, ↓sL_8, ↓sL_9, ↓sL_10, ↓rrf_si, ↓rrf_sg, ↓shO_si, ↓shO_sg, ↓shO_sr, ↓shA_si, ↓shA_sg, ↓shA_sr, ↓pAs_0, ↓pAs_i, ↓pAs_r, stk_n, stk_i, stk_l, stk_r, List.nil_append, List.cons_append, true_and, and_true, true_or, or_true, Nat.zero_add, dp_s, Nat.reduceAdd, le8_0, le8_1, le8_2, le8_3, le8_4, le8_5, le8_6, le8_7, le8_8, Classical.not_not, aT40, aT41, aT42, aT44, aT54, aT58, aT59, rT54, rT58, rT59, reduceIte, Nat.reduceEqDiff, qn_42, qn_44, true_implies, not_true_eq_false, not_false_eq_true, false_implies, le_T, T_16, nT (show 16 < 2147483648 by omega)]
      exact ⟨fun _ => hk M1 h1 o1, fun c => absurd (by decide) c⟩
    | succ m ih =>
      intro i M1 hi h1 o1
      obtain ⟨-, wx⟩ := h1.2.2.1.1.2.2.2.2.2 p x hx
      have hDk := h1.2.1.1
      have e3 : nI x.2.2.1 * 16 + nI i = nI (16 * x.2.2.1 + i) := by rw [n_16, pk_mul, nI_add]; congr 1; omega
      refine vc_X 30 _ _ _ _ _ _ _ ?_
      simp only [↓v96_0, ↓v96_1, ↓v96_4, ↓v96_7, ↓v96_8, ↓v96_11, ↓v96_12, ↓v96_15, ↓v96_18, ↓v96_19, ↓v96_22, ↓v96_23, ↓v96_26, ↓v96_27, ↓v96_30, ↓v96_33, ↓v96_34, ↓v96_35, ↓v96_36, ↓v96_38, ↓v96_41, ↓v96_42, ↓v96_45, ↓v96_46, ↓v96_49, ↓v96_51, ↓v96_52, ↓v96_53, ↓v96_54, ↓v96_55, ↓v96_56, ↓v96_59, ↓v96_60, ↓v96_63, ↓v96_66, ↓qI_c, ↓qL_c, ↓qR_c, ↓pA_o, ↓qC_i, ↓qC_r, ↓oA_s, ↓gI_0, ↓gI_1, ↓gI_2, ↓gI_3, ↓gI_4, ↓gI_5, ↓gI_6, ↓gI_7, ↓gI_8, ↓gI_9, ↓gI_10, ↓gR_0, ↓gR_1, ↓gR_2, ↓gR_3, ↓gR_4, ↓gR_5, ↓gR_6, ↓gR_7, ↓gR_8, ↓gR_9, ↓gR_10, ↓sL_0, ↓sL_1, ↓sL_2, ↓sL_3, ↓sL_4, ↓sL_5, ↓sL_6, ↓sL_7, ↓sL_8, ↓sL_9, ↓sL_10, ↓rrf_si, ↓rrf_sg, ↓shO_si, ↓shO_sg, ↓shO_sr, ↓shA_si, ↓shA_sg, ↓shA_sr, ↓pAs_0, ↓pAs_i, ↓pAs_r, stk_n, stk_i, stk_l, stk_r, List.nil_append, List.cons_append, true_and, and_true, true_or, or_true, Nat.zero_add, dp_s, Nat.reduceAdd, le8_0, le8_1, le8_2, le8_3, le8_4, le8_5, le8_6, le8_7, le8_8, Classical.not_not, aT40, aT41, aT42, aT44, aT54, aT58, aT59, rT54, rT58, rT59, reduceIte, Nat.reduceEqDiff, qn_42, qn_44, true_implies, not_true_eq_false, not_false_eq_true, false_implies, le_T, T_16, nT (show i < 2147483648 by omega), ↓shO_of hDk.1.1, ↓rrf_of hDk.1.2.1, ↓shO_of wx.1.1, wx.2.2.1, e3]
      refine ⟨fun c => by omega, fun _ => ?_⟩
      refine k27 wx (fun j hj ej => ⟨_, rfl, ?_⟩) (fun c => absurd (inB_n (by omega) (by omega)) c)
      rw [nI_eq (by omega) (by omega)] at ej
      subst ej
      rw [(hb i hj).1]
      refine vc_X 30 _ _ _ _ _ _ _ ?_
      simp only [↓v96_0, ↓v96_1, ↓v96_4, ↓v96_7, ↓v96_8, ↓v96_11, ↓v96_12, ↓v96_15, ↓v96_18, ↓v96_19, ↓v96_22, ↓v96_23, ↓v96_26, ↓v96_27, ↓v96_30, ↓v96_33, ↓v96_34, ↓v96_35, ↓v96_36, ↓v96_38, ↓v96_41, ↓v96_42, ↓v96_45, ↓v96_46, ↓v96_49, ↓v96_51, ↓v96_52, ↓v96_53, ↓v96_54, ↓v96_55, ↓v96_56, ↓v96_59, ↓v96_60, ↓v96_63, ↓v96_66, ↓qI_c, ↓qL_c, ↓qR_c, ↓pA_o, ↓qC_i, ↓qC_r, ↓oA_s, ↓gI_0, ↓gI_1, ↓gI_2, ↓gI_3, ↓gI_4, ↓gI_5, ↓gI_6, ↓gI_7, ↓gI_8, ↓gI_9, ↓gI_10, ↓gR_0, ↓gR_1, ↓gR_2, ↓gR_3, ↓gR_4, ↓gR_5, ↓gR_6, ↓gR_7, ↓gR_8, ↓gR_9, ↓gR_10, ↓sL_0, ↓sL_1, ↓sL_2, ↓sL_3, ↓sL_4, ↓sL_5, ↓sL_6, ↓sL_7, ↓sL_8, ↓sL_9, ↓sL_10, ↓rrf_si, ↓rrf_sg, ↓shO_si, ↓shO_sg, ↓shO_sr, ↓shA_si, ↓shA_sg, ↓shA_sr, ↓pAs_0, ↓pAs_i, ↓pAs_r, stk_n, stk_i, stk_l, stk_r, List.nil_append, List.cons_append, true_and, and_true, true_or, or_true, Nat.zero_add, dp_s, Nat.reduceAdd, le8_0, le8_1, le8_2, le8_3, le8_4, le8_5, le8_6, le8_7, le8_8, Classical.not_not, aT40, aT41, aT42, aT44, aT54, aT58, aT59, rT54, rT58, rT59, reduceIte, Nat.reduceEqDiff, qn_42, qn_44, true_implies, not_true_eq_false, not_false_eq_true, false_implies, ↓shA_of hDk.1.2.2.2.1, nC (show 16 * x.2.2.1 + i < 2147483648 by omega), nI_1]
      refine ⟨inB_n (by omega) (by omega), ?_⟩
      have o2 : On [b + 2] M1 (M1.si (b + 2) (16 * x.2.2.1 + i) (nI (byN x i))) := On.rf_.put (by simp)
      refine ih (i + 1) _ (by omega) (h1.upDk (dk := dkF D.1 x (i + 1)) (fun j hj => ?_) o2) (o1.trans o2 (fun _ h => h))
      rw [si_it]
      by_cases c : j = 16 * x.2.2.1 + i
      · rw [if_pos ⟨rfl, c⟩]
        unfold dkF
        rw [if_pos (by omega), c, show 16 * x.2.2.1 + i - 16 * x.2.2.1 = i by omega]
        exact ⟨rfl, (hb i (by omega)).2⟩
      · rw [if_neg (fun q => c q.2)]
        have := hDk.2 j hj
        have e5 : dkF D.1 x (i + 1) j = dkF D.1 x i j := by
          unfold dkF
          by_cases c2 : 16 * x.2.2.1 ≤ j ∧ j < 16 * x.2.2.1 + i
          · rw [if_pos (by omega), if_pos c2]
          · rw [if_neg (by omega), if_neg c2]
        rw [e5]
        exact this
  obtain ⟨-, wx⟩ := h.2.2.1.1.2.2.2.2.2 p x hx
  have w4 : M.rf (b + 7 + 2 + 2 * Q.1 p) 4 = none := by rw [wx.2.2.2.1]; exact hr
  refine xc ?_
  show X (d + 1) 96 0 [some (.inr (some (b + 1))), some (.inr (some (b + 7 + 2 + 2 * Q.1 p))), none] [] M k
  refine vc_X 20 _ _ _ _ _ _ _ ?_
  simp only [↓v96_0, ↓v96_1, ↓v96_4, ↓v96_7, ↓v96_8, ↓v96_11, ↓v96_12, ↓v96_15, ↓v96_18, ↓v96_19, ↓v96_22, ↓v96_23, ↓v96_26, ↓v96_27, ↓v96_30, ↓v96_33, ↓v96_34, ↓v96_35, ↓v96_36, ↓v96_38, ↓v96_41, ↓v96_42, ↓v96_45, ↓v96_46, ↓v96_49, ↓v96_51, ↓v96_52, ↓v96_53, ↓v96_54, ↓v96_55, ↓v96_56, ↓v96_59, ↓v96_60, ↓v96_63, ↓v96_66, ↓qI_c, ↓qL_c, ↓qR_c, ↓pA_o, ↓qC_i, ↓qC_r, ↓oA_s, ↓gI_0, ↓gI_1, ↓gI_2, ↓gI_3, ↓gI_4, ↓gI_5, ↓gI_6, ↓gI_7, ↓gI_8, ↓gI_9, ↓gI_10, ↓gR_0, ↓gR_1, ↓gR_2, ↓gR_3, ↓gR_4, ↓gR_5, ↓gR_6, ↓gR_7, ↓gR_8, ↓gR_9, ↓gR_10, ↓sL_0, ↓sL_1, ↓sL_2, ↓sL_3, ↓sL_4, ↓sL_5, ↓sL_6, ↓sL_7, ↓sL_8, ↓sL_9, ↓sL_10, ↓rrf_si, ↓rrf_sg, ↓shO_si, ↓shO_sg, ↓shO_sr, ↓shA_si, ↓shA_sg, ↓shA_sr, ↓pAs_0, ↓pAs_i, ↓pAs_r, stk_n, stk_i, stk_l, stk_r, List.nil_append, List.cons_append, true_and, and_true, true_or, or_true, Nat.zero_add, dp_s, Nat.reduceAdd, le8_0, le8_1, le8_2, le8_3, le8_4, le8_5, le8_6, le8_7, le8_8, Classical.not_not, aT40, aT41, aT42, aT44, aT54, aT58, aT59, rT54, rT58, rT59, reduceIte, Nat.reduceEqDiff, qn_42, qn_44, true_implies, not_true_eq_false, not_false_eq_true, false_implies, ↓shO_of wx.1.1, ↓rrf_of w4]
  refine k75 wx ⟨_, rfl, ?_⟩
  rw [if_pos ht]
  refine vc_X 20 _ _ _ _ _ _ _ ?_
  simp only [↓v96_0, ↓v96_1, ↓v96_4, ↓v96_7, ↓v96_8, ↓v96_11, ↓v96_12, ↓v96_15, ↓v96_18, ↓v96_19, ↓v96_22, ↓v96_23, ↓v96_26, ↓v96_27, ↓v96_30, ↓v96_33, ↓v96_34, ↓v96_35, ↓v96_36, ↓v96_38, ↓v96_41, ↓v96_42, ↓v96_45, ↓v96_46, ↓v96_49, ↓v96_51, ↓v96_52, ↓v96_53, ↓v96_54, ↓v96_55, ↓v96_56, ↓v96_59, ↓v96_60, ↓v96_63, ↓v96_66, ↓qI_c, ↓qL_c, ↓qR_c, ↓pA_o, ↓qC_i, ↓qC_r, ↓oA_s, ↓gI_0, ↓gI_1, ↓gI_2, ↓gI_3, ↓gI_4, ↓gI_5, ↓gI_6, ↓gI_7, ↓gI_8, ↓gI_9, ↓gI_10, ↓gR_0, ↓gR_1, ↓gR_2, ↓gR_3, ↓gR_4, ↓gR_5, ↓gR_6, ↓gR_7, ↓gR_8, ↓gR_9, ↓gR_10, ↓sL_0, ↓sL_1, ↓sL_2, ↓sL_3, ↓sL_4, ↓sL_5, ↓sL_6, ↓sL_7, ↓sL_8, ↓sL_9, ↓sL_10, ↓rrf_si, ↓rrf_sg, ↓shO_si, ↓shO_sg, ↓shO_sr, ↓shA_si, ↓shA_sg, ↓shA_sr, ↓pAs_0, ↓pAs_i, ↓pAs_r, stk_n, stk_i, stk_l, stk_r, List.nil_append, List.cons_append, true_and, and_true, true_or, or_true, Nat.zero_add, dp_s, Nat.reduceAdd, le8_0, le8_1, le8_2, le8_3, le8_4, le8_5, le8_6, le8_7, le8_8, Classical.not_not, aT40, aT41, aT42, aT44, aT54, aT58, aT59, rT54, rT58, rT59, reduceIte, Nat.reduceEqDiff, qn_42, qn_44, true_implies, not_true_eq_false, not_false_eq_true, false_implies, i10]
  refine lop 16 0 M (by omega) ?_ On.rf_
  have e0 : dkF D.1 x 0 = D.1 := by
    funext j
    unfold dkF
    rw [if_neg (by omega)]
  rw [e0]
  exact h
theorem k96r {d : Nat} {M : Mm} {k : mQ} {b p a : Nat} {x : WT} (h : CP M b D Q C L I T E F) (hx : Q.2.2[p]? = some x) (hr : x.2.2.2.1 = some a) (hk : ∀ M', CP M' b (if (F.1 a).1 % 2 = 0 then (D.1, a, D.2.2) else (D.1, D.2.1, some a)) Q C L I T E F → Of (· = b + 3) M M' → k none M') : XC (d + 2) 96 [.inr (some (b + 1)), .inr (some (b + 7 + 2 + 2 * Q.1 p))] M k := by
  obtain ⟨-, wx⟩ := h.2.2.1.1.2.2.2.2.2 p x hx
  have w4 : M.rf (b + 7 + 2 + 2 * Q.1 p) 4 = some a := by rw [wx.2.2.2.1]; exact hr
  have rc := h.2.2.1.2 p x a hx hr
  have hDk := h.2.1.1
  have hp2 := Nat.mod_lt (F.1 a).1 (show 0 < 2 by omega)
  refine xc ?_
  show X (d + 1) 96 0 [some (.inr (some (b + 1))), some (.inr (some (b + 7 + 2 + 2 * Q.1 p))), none] [] M k
  refine vc_X 20 _ _ _ _ _ _ _ ?_
  simp only [↓v96_0, ↓v96_1, ↓v96_4, ↓v96_7, ↓v96_8, ↓v96_11, ↓v96_12, ↓v96_15, ↓v96_18, ↓v96_19, ↓v96_22, ↓v96_23, ↓v96_26, ↓v96_27, ↓v96_30, ↓v96_33, ↓v96_34, ↓v96_35, ↓v96_36, ↓v96_38, ↓v96_41, ↓v96_42, ↓v96_45, ↓v96_46, ↓v96_49, ↓v96_51, ↓v96_52, ↓v96_53, ↓v96_54, ↓v96_55, ↓v96_56, ↓v96_59, ↓v96_60, ↓v96_63, ↓v96_66, ↓qI_c, ↓qL_c, ↓qR_c, ↓pA_o, ↓qC_i, ↓qC_r, ↓oA_s, ↓gI_0, ↓gI_1, ↓gI_2, ↓gI_3, ↓gI_4, ↓gI_5, ↓gI_6, ↓gI_7, ↓gI_8, ↓gI_9, ↓gI_10, ↓gR_0, ↓gR_1, ↓gR_2, ↓gR_3, ↓gR_4, ↓gR_5, ↓gR_6, ↓gR_7, ↓gR_8, ↓gR_9, ↓gR_10, ↓sL_0, ↓sL_1, ↓sL_2, ↓sL_3, ↓sL_4, ↓sL_5, ↓sL_6, ↓sL_7, ↓sL_8, ↓sL_9, ↓sL_10, ↓rrf_si, ↓rrf_sg, ↓shO_si, ↓shO_sg, ↓shO_sr, ↓shA_si, ↓shA_sg, ↓shA_sr, ↓pAs_0, ↓pAs_i, ↓pAs_r, stk_n, stk_i, stk_l, stk_r, List.nil_append, List.cons_append, true_and, and_true, true_or, or_true, Nat.zero_add, dp_s, Nat.reduceAdd, le8_0, le8_1, le8_2, le8_3, le8_4, le8_5, le8_6, le8_7, le8_8, Classical.not_not, aT40, aT41, aT42, aT44, aT54, aT58, aT59, rT54, rT58, rT59, reduceIte, Nat.reduceEqDiff, qn_42, qn_44, true_implies, not_true_eq_false, not_false_eq_true, false_implies, ↓shO_of wx.1.1, ↓rrf_of w4, sn, ↓shO_of hDk.1.1, ↓rrf_of hDk.1.2.2.1, ↓shO_of rc.1.1.1]
  refine k81 rc.1 ⟨_, rfl, ?_⟩
  refine vc_X 20 _ _ _ _ _ _ _ ?_
  simp only [↓v96_0, ↓v96_1, ↓v96_4, ↓v96_7, ↓v96_8, ↓v96_11, ↓v96_12, ↓v96_15, ↓v96_18, ↓v96_19, ↓v96_22, ↓v96_23, ↓v96_26, ↓v96_27, ↓v96_30, ↓v96_33, ↓v96_34, ↓v96_35, ↓v96_36, ↓v96_38, ↓v96_41, ↓v96_42, ↓v96_45, ↓v96_46, ↓v96_49, ↓v96_51, ↓v96_52, ↓v96_53, ↓v96_54, ↓v96_55, ↓v96_56, ↓v96_59, ↓v96_60, ↓v96_63, ↓v96_66, ↓qI_c, ↓qL_c, ↓qR_c, ↓pA_o, ↓qC_i, ↓qC_r, ↓oA_s, ↓gI_0, ↓gI_1, ↓gI_2, ↓gI_3, ↓gI_4, ↓gI_5, ↓gI_6, ↓gI_7, ↓gI_8, ↓gI_9, ↓gI_10, ↓gR_0, ↓gR_1, ↓gR_2, ↓gR_3, ↓gR_4, ↓gR_5, ↓gR_6, ↓gR_7, ↓gR_8, ↓gR_9, ↓gR_10, ↓sL_0, ↓sL_1, ↓sL_2, ↓sL_3, ↓sL_4, ↓sL_5, ↓sL_6, ↓sL_7, ↓sL_8, ↓sL_9, ↓sL_10, ↓rrf_si, ↓rrf_sg, ↓shO_si, ↓shO_sg, ↓shO_sr, ↓shA_si, ↓shA_sg, ↓shA_sr, ↓pAs_0, ↓pAs_i, ↓pAs_r, stk_n, stk_i, stk_l, stk_r, List.nil_append, List.cons_append, true_and, and_true, true_or, or_true, Nat.zero_add, dp_s, Nat.reduceAdd, le8_0, le8_1, le8_2, le8_3, le8_4, le8_5, le8_6, le8_7, le8_8, Classical.not_not, aT40, aT41, aT42, aT44, aT54, aT58, aT59, rT54, rT58, rT59, reduceIte, Nat.reduceEqDiff, qn_42, qn_44, true_implies, not_true_eq_false, not_false_eq_true, false_implies, ↓shO_of wx.1.1, ↓rrf_of w4, ↓shA_of hDk.1.2.2.2.2, nC (show (F.1 a).1 % 2 < 2147483648 by omega), ↓shO_of rc.1.1.1]
  refine ⟨inB_n (by omega) (by omega), fun b' hb' => by cases hb'; exact rc.1.1.1, ?_⟩
  generalize hM' : M.sr (b + 1 + 2) ((F.1 a).1 % 2) (some a) = M'
  have o : Of (· = b + 3) M M' := by rw [← hM']; exact (Of.rf_ : Of (· = b + 3) M M).r rfl
  have g : Ag (fun y => ¬ y = b + 3) M M' := o.ag (fun _ h => h)
  have hz : M.sz ≤ M'.sz := by rw [o.2.1]; exact Nat.le_refl _
  have hrf : ∀ j, M'.rf (b + 3) j = if j = (F.1 a).1 % 2 then some a else M.rf (b + 3) j := by
    intro j
    rw [← hM']
    show (M.sr (b + 3) ((F.1 a).1 % 2) (some a)).rf (b + 3) j = _
    rw [sr_rf]
    by_cases c : j = (F.1 a).1 % 2
    · rw [if_pos ⟨rfl, c⟩, if_pos c]
    · rw [if_neg (fun q => c q.2), if_neg c]
  refine hk M' ?_ o
  obtain ⟨h1, h2, h3, h4, h5, h6, h7, h8, h9⟩ := h
  have hDk' : DkC M' (b + 1) D.1 := by
    obtain ⟨⟨b1, b2, b3, b4, b5⟩, n⟩ := h2.1
    exact ⟨⟨by rw [o.1]; exact b1, by rw [g.rf (by omega)]; exact b2, by rw [g.rf (by omega)]; exact b3, by rw [o.1]; exact b4, by rw [o.1]; exact b5⟩, fun j hj => by rw [g.it (by omega)]; exact n j hj⟩
  have hR : ∀ y, RcC M b F.1 y → RcC M' b F.1 y := fun y hy => hy.ag g (fun x hx => by omega) hz
  refine ⟨h1.ag g (fun x hx => by omega) hz, ?_, h3.ag g (fun x hx => by omega) hz, ⟨h4.1.ag g (by omega) (by omega), h4.2⟩, h5.ag g (by omega) (by omega), h6.ag g (fun x hx => by unfold PX at hx; omega), h7.ag g (fun x hx => by omega), h8.ag g (fun x hx => by omega), h9.ag g (fun x hx => by omega) hz⟩
  by_cases c : (F.1 a).1 % 2 = 0
  · rw [if_pos c]
    refine ⟨hDk', ?_, ?_, hR a rc, fun y hy => hR y (h2.2.2.2.2 y hy)⟩
    · rw [hrf, if_pos c.symm]
    · rw [hrf, if_neg (by omega)]; exact h2.2.2.1
  · rw [if_neg c]
    refine ⟨hDk', ?_, ?_, hR _ h2.2.2.2.1, fun y hy => ?_⟩
    · rw [hrf, if_neg (by omega)]; exact h2.2.1
    · rw [hrf, if_pos (by omega)]
    · cases hy; exact hR _ rc
end
theorem k97w {d : Nat} {M : Mm} {k : mQ} {q made p : Nat} {pm : Nat → Nat} {ws : List WT} (h : QuC M q pm made ws) (hp : p < ws.length) (hk : ∀ M', QuC M' q (pmR pm p ws.length) made (wsR ws p (pm p)) → Of (PQ q) M M' → (∀ x, ws[p]? = some x → WrC M' (q + 2 + 2 * pm p) x) → k none M') : XC (d + 2) 97 [.inr (some q), .inl (nI p)] M k := by
  obtain ⟨⟨b1, b2, b3, b4, b5, b6⟩, g1, g2, g3, g4, g5⟩ := id h
  have b4' : M.rf (q + 1) (nI p).toNatClampNeg = some (q + 2 + 2 * pm p) := by rw [nC (by omega)]; exact (b4 p (by omega)).1
  have hpp := (b4 p (by omega)).2
  refine xc ?_
  show X (d + 1) 97 0 [some (.inr (some q)), some (.inl (nI p)), none, none] [] M k
  refine vc_X 40 _ _ _ _ _ _ _ ?_
  simp only [↓v97_0, ↓v97_1, ↓v97_4, ↓v97_5, ↓v97_6, ↓v97_9, ↓v97_12, ↓v97_13, ↓v97_14, ↓v97_17, ↓v97_18, ↓v97_19, ↓v97_20, ↓v97_21, ↓v97_22, ↓v97_25, ↓v97_26, ↓v97_27, ↓v97_30, ↓v97_31, ↓v97_32, ↓v97_33, ↓v97_34, ↓v97_37, ↓v97_40, ↓v97_41, ↓v97_44, ↓v97_45, ↓v97_46, ↓v97_49, ↓v97_50, ↓v97_51, ↓v97_52, ↓v97_53, ↓v97_54, ↓v97_55, ↓v97_58, ↓v97_59, ↓v97_60, ↓v97_61, ↓v97_64, ↓v97_67, ↓v97_70, ↓v97_71, ↓v97_74, ↓v97_75, ↓v97_78, ↓v97_79, ↓v97_80, ↓qI_c, ↓qL_c, ↓qR_c, ↓pA_o, ↓qC_i, ↓qC_r, ↓oA_s, ↓gI_0, ↓gI_1, ↓gI_2, ↓gI_3, ↓gI_4, ↓gI_5, ↓gI_6, ↓gI_7, ↓gI_8, ↓gI_9, ↓gI_10, ↓gR_0, ↓gR_1, ↓gR_2, ↓gR_3, ↓gR_4, ↓gR_5, ↓gR_6, ↓gR_7, ↓gR_8, ↓gR_9, ↓gR_10, ↓sL_0, ↓sL_1, ↓sL_2, ↓sL_3, ↓sL_4, ↓sL_5, ↓sL_6, ↓sL_7, ↓sL_8, ↓sL_9, ↓sL_10, ↓rrf_si, ↓rrf_sg, ↓shO_si, ↓shO_sg, ↓shO_sr, ↓shA_si, ↓shA_sg, ↓shA_sr, ↓pAs_0, ↓pAs_i, ↓pAs_r, stk_n, stk_i, stk_l, stk_r, List.nil_append, List.cons_append, true_and, and_true, true_or, or_true, Nat.zero_add, dp_s, Nat.reduceAdd, le8_0, le8_1, le8_2, le8_3, le8_4, le8_5, le8_6, le8_7, le8_8, Classical.not_not, aT40, aT41, aT42, aT44, aT54, aT58, aT59, rT54, rT58, rT59, reduceIte, Nat.reduceEqDiff, qn_42, qn_44, true_implies, not_true_eq_false, not_false_eq_true, false_implies, ↓shO_of b1, ↓rrf_of b2, ↓shA_of b3, ↓rrf_of b4', g1, lt_T, le_T, T_0, nT (show ws.length < 2147483648 by omega), nT (show p < 2147483648 by omega)]
  refine ⟨fun c => by omega, fun _ => ⟨fun _ => ⟨inB_n (by omega) (by omega), ?_⟩, fun c => by omega⟩⟩
  rw [show nI ws.length - 1 = nI (ws.length - 1) by rw [n_1]; exact pk_sub (by omega)]
  generalize hM1 : M.si q 1 (nI (ws.length - 1)) = M1
  have o1 : Of (· = q) M M1 := by rw [← hM1]; exact Of.rf_.i rfl
  have hR : QR M1 q pm made ws p p := by
    refine ⟨⟨by rw [o1.1]; exact b1, ?_, by rw [o1.1]; exact b3⟩, ?_, ?_, fun k hk => ?_, fun s hs => (b6 s hs).kf o1 (by omega), fun k x hx => ?_⟩
    · rw [← hM1]; exact b2
    · rw [← hM1, si_it, if_pos ⟨rfl, rfl⟩]
    · rw [← hM1, si_it, if_neg (by simp)]; exact g3
    · rw [(o1.2.2.2 (q + 1) (by omega) k).2.2, if_neg (by omega)]; exact (b4 k hk).1
    · rw [if_neg (by omega)]
      exact (g5 k x hx).2.kf o1 (by omega) (by omega)
  refine lop97 (fun k hk => (b4 k hk).2) b5 (fun k x hx => (g5 k x hx).1) hp g2 (ws.length - 1 - p) p M1 (by omega) (Nat.le_refl _) hR (fun M2 h2 o2 => ?_)
  obtain ⟨⟨f1, f2, f3⟩, f4, f5, f6, f7, f8⟩ := h2
  generalize hM3 : M2.sr (q + 1) (ws.length - 1) (some (q + 2 + 2 * pm p)) = M3
  have o3 : Of (· = q + 1) M2 M3 := by rw [← hM3]; exact Of.rf_.r rfl
  refine hk M3 ⟨⟨by rw [o3.1]; exact f1, by rw [(o3.2.2.2 q (by omega) 0).2.2]; exact f2, by rw [o3.1]; exact f3, fun k hk => ⟨?_, pmR_lt (fun k hk => (b4 k hk).2) hp g2 k hk⟩, pmR_inj b5 hp g2, fun s hs => (f7 s hs).kf o3 (by omega)⟩, by rw [(o3.2.2.2 q (by omega) 1).1, wsR_len hp]; exact f4, by rw [wsR_len hp]; omega, by rw [(o3.2.2.2 q (by omega) 2).1]; exact f5, g4, fun k x hx => ?_⟩ (((o1.mono (fun y hy => by unfold PQ; omega)).trans o2 (fun _ x => x)).trans o3 (fun y hy => by unfold PQ; omega)) (fun x hx => by
    have := f8 p x hx
    rw [if_neg (by omega)] at this
    exact this.kf o3 (by omega) (by omega))
  · rw [← hM3, sr_rf]
    by_cases hkn : k = ws.length - 1
    · rw [if_pos ⟨rfl, hkn⟩]
      unfold pmR
      rw [if_neg (by omega), if_neg (by omega), if_pos (by omega)]
    · rw [if_neg (fun h => hkn h.2), f6 k hk]
      unfold pmR
      by_cases hc : k < p
      · rw [if_neg (by omega), if_pos hc]
      · rw [if_neg hc]
        by_cases hc2 : k + 1 < ws.length
        · rw [if_pos hc2, if_pos (by omega)]
        · rw [if_neg hc2, if_neg (by omega), if_neg (by omega)]
  · rcases wsR_get hp hx with ⟨hkp, hx1⟩ | ⟨hpk, y, hy, rfl⟩
    · have e : pmR pm p ws.length k = pm k := by unfold pmR; rw [if_pos hkp]
      have := f8 k x hx1
      rw [if_neg (by omega)] at this
      rw [e]
      have hb := (b4 k (by omega)).2
      exact ⟨(g5 k x hx1).1, this.kf o3 (by omega) (by omega)⟩
    · have hlt := (List.getElem?_eq_some_iff.mp hy).1
      have e : pmR pm p ws.length k = pm (k + 1) := by unfold pmR; rw [if_neg (by omega), if_pos hlt]
      have := f8 (k + 1) y hy
      rw [if_pos (by omega)] at this
      rw [e]
      have hb := (b4 (k + 1) (by omega)).2
      exact ⟨(g5 (k + 1) y hy).1, this.kf o3 (by omega) (by omega)⟩
theorem wsR_rec {ws : List WT} {p t k a : Nat} {x : WT} (hp : p < ws.length) (h : (wsR ws p t)[k]? = some x) (ha : x.2.2.2.1 = some a) : ∃ (j : Nat) (y : WT), ws[j]? = some y ∧ y.2.2.2.1 = some a := by
  rcases wsR_get hp h with ⟨_, h⟩ | ⟨_, y, hy, e⟩
  · exact ⟨k, x, h, ha⟩
  · subst e
    exact ⟨k + 1, y, hy, ha⟩
theorem c92 {d c : Nat} {M : Mm} {k : mQ} {b : Nat} {s : Ms} {x : Int32} (h : CM M b s) (hi : IvS c s) (hk : ∀ M', CM M' b (mIss x s).2 → Of (fun y => b ≤ y ∧ y < b + 279) M M' → k (some (.inl (mIss x s).1)) M') : XC (d + 4) 92 [.inr (some b), .inl x] M k := by
  have h0 := h
  obtain ⟨D, pm, ws, im, G, a, h, r⟩ := h
  have hq : QuC M (b + 7) pm s.md ws := h.2.2.1.1
  have hRW := r.2.2.2.1
  have hlen := hRW.1
  have hl := hq.2.2.1
  unfold mIss at hk
  refine xc ?_
  show X (d + 3) 92 0 [some (.inr (some b)), some (.inl x), none, none] [] M k
  refine vc_X 20 _ _ _ _ _ _ _ ?_
  simp only [↓v92_0, ↓v92_1, ↓v92_4, ↓v92_5, ↓v92_8, ↓v92_9, ↓v92_10, ↓v92_13, ↓v92_14, ↓v92_17, ↓v92_18, ↓v92_19, ↓v92_22, ↓v92_23, ↓v92_24, ↓v92_25, ↓v92_28, ↓v92_29, ↓v92_32, ↓v92_33, ↓v92_36, ↓v92_37, ↓v92_40, ↓v92_41, ↓v92_44, ↓qI_c, ↓qL_c, ↓qR_c, ↓pA_o, ↓qC_i, ↓qC_r, ↓oA_s, ↓gI_0, ↓gI_1, ↓gI_2, ↓gI_3, ↓gI_4, ↓gI_5, ↓gI_6, ↓gI_7, ↓gI_8, ↓gI_9, ↓gI_10, ↓gR_0, ↓gR_1, ↓gR_2, ↓gR_3, ↓gR_4, ↓gR_5, ↓gR_6, ↓gR_7, ↓gR_8, ↓gR_9, ↓gR_10, ↓sL_0, ↓sL_1, ↓sL_2, ↓sL_3, ↓sL_4, ↓sL_5, ↓sL_6, ↓sL_7, ↓sL_8, ↓sL_9, ↓sL_10, ↓rrf_si, ↓rrf_sg, ↓shO_si, ↓shO_sg, ↓shO_sr, ↓shA_si, ↓shA_sg, ↓shA_sr, ↓pAs_0, ↓pAs_i, ↓pAs_r, stk_n, stk_i, stk_l, stk_r, List.nil_append, List.cons_append, true_and, and_true, true_or, or_true, Nat.zero_add, dp_s, Nat.reduceAdd, le8_0, le8_1, le8_2, le8_3, le8_4, le8_5, le8_6, le8_7, le8_8, Classical.not_not, aT40, aT41, aT42, aT44, aT54, aT58, aT59, rT54, rT58, rT59, reduceIte, Nat.reduceEqDiff, qn_42, qn_44, true_implies, not_true_eq_false, not_false_eq_true, false_implies, ↓shO_of h.1.1.1, ↓rrf_of h.1.1.2.2.1, ↓shO_of hq.1.1]
  refine k93 hq ⟨_, rfl, ?_⟩
  have er : rdyP ws = rdM s.ws := funext (fun i => hRW.rdy h.pm hl i)
  rw [er, hlen]
  cases hf : rpF (rdM s.ws) x 0 s.ws.length with
  | none =>
    rw [hf] at hk
    refine vc_X 20 _ _ _ _ _ _ _ ?_
    simp only [↓v92_0, ↓v92_1, ↓v92_4, ↓v92_5, ↓v92_8, ↓v92_9, ↓v92_10, ↓v92_13, ↓v92_14, ↓v92_17, ↓v92_18, ↓v92_19, ↓v92_22, ↓v92_23, ↓v92_24, ↓v92_25, ↓v92_28, ↓v92_29, ↓v92_32, ↓v92_33, ↓v92_36, ↓v92_37, ↓v92_40, ↓v92_41, ↓v92_44, ↓qI_c, ↓qL_c, ↓qR_c, ↓pA_o, ↓qC_i, ↓qC_r, ↓oA_s, ↓gI_0, ↓gI_1, ↓gI_2, ↓gI_3, ↓gI_4, ↓gI_5, ↓gI_6, ↓gI_7, ↓gI_8, ↓gI_9, ↓gI_10, ↓gR_0, ↓gR_1, ↓gR_2, ↓gR_3, ↓gR_4, ↓gR_5, ↓gR_6, ↓gR_7, ↓gR_8, ↓gR_9, ↓gR_10, ↓sL_0, ↓sL_1, ↓sL_2, ↓sL_3, ↓sL_4, ↓sL_5, ↓sL_6, ↓sL_7, ↓sL_8, ↓sL_9, ↓sL_10, ↓rrf_si, ↓rrf_sg, ↓shO_si, ↓shO_sg, ↓shO_sr, ↓shA_si, ↓shA_sg, ↓shA_sr, ↓pAs_0, ↓pAs_i, ↓pAs_r, stk_n, stk_i, stk_l, stk_r, List.nil_append, List.cons_append, true_and, and_true, true_or, or_true, Nat.zero_add, dp_s, Nat.reduceAdd, le8_0, le8_1, le8_2, le8_3, le8_4, le8_5, le8_6, le8_7, le8_8, Classical.not_not, aT40, aT41, aT42, aT44, aT54, aT58, aT59, rT54, rT58, rT59, reduceIte, Nat.reduceEqDiff, qn_42, qn_44, true_implies, not_true_eq_false, not_false_eq_true, false_implies, oI_none, ↓shO_of h.1.1.1, ↓rrf_of h.1.1.2.2.1, ↓shO_of hq.1.1]
    refine k74 hq (fun j z ej hj => ?_) (fun c => ⟨_, rfl, ?_⟩)
    · have hjl := (List.getElem?_eq_some_iff.mp hj).1
      have ej := ej.symm
      rw [nI_nm (by omega) (by decide)] at ej
      exact ej.elim
    · refine vc_X 20 _ _ _ _ _ _ _ ?_
      simp only [↓v92_0, ↓v92_1, ↓v92_4, ↓v92_5, ↓v92_8, ↓v92_9, ↓v92_10, ↓v92_13, ↓v92_14, ↓v92_17, ↓v92_18, ↓v92_19, ↓v92_22, ↓v92_23, ↓v92_24, ↓v92_25, ↓v92_28, ↓v92_29, ↓v92_32, ↓v92_33, ↓v92_36, ↓v92_37, ↓v92_40, ↓v92_41, ↓v92_44, ↓qI_c, ↓qL_c, ↓qR_c, ↓pA_o, ↓qC_i, ↓qC_r, ↓oA_s, ↓gI_0, ↓gI_1, ↓gI_2, ↓gI_3, ↓gI_4, ↓gI_5, ↓gI_6, ↓gI_7, ↓gI_8, ↓gI_9, ↓gI_10, ↓gR_0, ↓gR_1, ↓gR_2, ↓gR_3, ↓gR_4, ↓gR_5, ↓gR_6, ↓gR_7, ↓gR_8, ↓gR_9, ↓gR_10, ↓sL_0, ↓sL_1, ↓sL_2, ↓sL_3, ↓sL_4, ↓sL_5, ↓sL_6, ↓sL_7, ↓sL_8, ↓sL_9, ↓sL_10, ↓rrf_si, ↓rrf_sg, ↓shO_si, ↓shO_sg, ↓shO_sr, ↓shA_si, ↓shA_sg, ↓shA_sr, ↓pAs_0, ↓pAs_i, ↓pAs_r, stk_n, stk_i, stk_l, stk_r, List.nil_append, List.cons_append, true_and, and_true, true_or, or_true, Nat.zero_add, dp_s, Nat.reduceAdd, le8_0, le8_1, le8_2, le8_3, le8_4, le8_5, le8_6, le8_7, le8_8, Classical.not_not, aT40, aT41, aT42, aT44, aT54, aT58, aT59, rT54, rT58, rT59, reduceIte, Nat.reduceEqDiff, qn_42, qn_44, true_implies, not_true_eq_false, not_false_eq_true, false_implies]
      exact hk M h0 Of.rf_
  | some p =>
    rw [hf] at hk
    have hk : ∀ M', CM M' b (landM p s) → Of (fun y => b ≤ y ∧ y < b + 279) M M' → k (some (.inl (nuM s p))) M' := hk
    have hpl : p < s.ws.length := by unfold rpF at hf; have := (fst_spec _ _ _ _ hf).2.2; omega
    have hw : s.ws[p]? = some s.ws[p] := List.getElem?_eq_getElem hpl
    obtain ⟨z, hz, rx⟩ := hRW.at_ hw
    have e1 : oI (some p) = nI p := rfl
    have hpm := (hq.1.2.2.2.1 p (by omega)).2
    have enu : nuM s p = nI s.ws[p].n := by unfold nuM; rw [hw]
    rw [enu, ← rx.1] at hk
    refine vc_X 20 _ _ _ _ _ _ _ ?_
    simp only [↓v92_0, ↓v92_1, ↓v92_4, ↓v92_5, ↓v92_8, ↓v92_9, ↓v92_10, ↓v92_13, ↓v92_14, ↓v92_17, ↓v92_18, ↓v92_19, ↓v92_22, ↓v92_23, ↓v92_24, ↓v92_25, ↓v92_28, ↓v92_29, ↓v92_32, ↓v92_33, ↓v92_36, ↓v92_37, ↓v92_40, ↓v92_41, ↓v92_44, ↓qI_c, ↓qL_c, ↓qR_c, ↓pA_o, ↓qC_i, ↓qC_r, ↓oA_s, ↓gI_0, ↓gI_1, ↓gI_2, ↓gI_3, ↓gI_4, ↓gI_5, ↓gI_6, ↓gI_7, ↓gI_8, ↓gI_9, ↓gI_10, ↓gR_0, ↓gR_1, ↓gR_2, ↓gR_3, ↓gR_4, ↓gR_5, ↓gR_6, ↓gR_7, ↓gR_8, ↓gR_9, ↓gR_10, ↓sL_0, ↓sL_1, ↓sL_2, ↓sL_3, ↓sL_4, ↓sL_5, ↓sL_6, ↓sL_7, ↓sL_8, ↓sL_9, ↓sL_10, ↓rrf_si, ↓rrf_sg, ↓shO_si, ↓shO_sg, ↓shO_sr, ↓shA_si, ↓shA_sg, ↓shA_sr, ↓pAs_0, ↓pAs_i, ↓pAs_r, stk_n, stk_i, stk_l, stk_r, List.nil_append, List.cons_append, true_and, and_true, true_or, or_true, Nat.zero_add, dp_s, Nat.reduceAdd, le8_0, le8_1, le8_2, le8_3, le8_4, le8_5, le8_6, le8_7, le8_8, Classical.not_not, aT40, aT41, aT42, aT44, aT54, aT58, aT59, rT54, rT58, rT59, reduceIte, Nat.reduceEqDiff, qn_42, qn_44, true_implies, not_true_eq_false, not_false_eq_true, false_implies, e1, ↓shO_of h.1.1.1, ↓rrf_of h.1.1.2.2.1, ↓shO_of hq.1.1]
    refine k74 hq (fun j z2 ej hj => ⟨_, rfl, ?_⟩) (fun c => absurd (inB_n (by omega) (by omega)) c)
    have hjl := (List.getElem?_eq_some_iff.mp hj).1
    rw [nI_eq (by omega) (by omega)] at ej
    subst ej
    rw [hz] at hj
    cases hj
    have fin : ∀ (M1 : Mm) (D1 : DT) (s1 : Ms), CP M1 b D1 (pm, s.md, ws) s.C s.L (im, s.I) s.T s.E (G, a, s.F.2) → Of (fun y => b ≤ y ∧ y < b + 279) M M1 → landM p s = s1 → (∀ pm2 ws2, RW pm2 G ws2 (s.ws.eraseIdx p) → CR s1 D1 pm2 ws2 G a) → (s1.md = s.md ∧ s1.C = s.C ∧ s1.L = s.L ∧ s1.I = s.I ∧ s1.T = s.T ∧ s1.E = s.E ∧ s1.F = s.F) → X (d + 3) 92 32 [some (.inr (some b)), some (.inl x), some (.inl (nI p)), some (.inr (some (b + 7 + 2 + 2 * pm p)))] [] M1 k := by
      intro M1 D1 s1 h1 o1 es cr eq
      have hq1 : QuC M1 (b + 7) pm s.md ws := h1.2.2.1.1
      have hDs := h1.2.1.1.1.1
      refine vc_X 20 _ _ _ _ _ _ _ ?_
      simp only [↓v92_0, ↓v92_1, ↓v92_4, ↓v92_5, ↓v92_8, ↓v92_9, ↓v92_10, ↓v92_13, ↓v92_14, ↓v92_17, ↓v92_18, ↓v92_19, ↓v92_22, ↓v92_23, ↓v92_24, ↓v92_25, ↓v92_28, ↓v92_29, ↓v92_32, ↓v92_33, ↓v92_36, ↓v92_37, ↓v92_40, ↓v92_41, ↓v92_44, ↓qI_c, ↓qL_c, ↓qR_c, ↓pA_o, ↓qC_i, ↓qC_r, ↓oA_s, ↓gI_0, ↓gI_1, ↓gI_2, ↓gI_3, ↓gI_4, ↓gI_5, ↓gI_6, ↓gI_7, ↓gI_8, ↓gI_9, ↓gI_10, ↓gR_0, ↓gR_1, ↓gR_2, ↓gR_3, ↓gR_4, ↓gR_5, ↓gR_6, ↓gR_7, ↓gR_8, ↓gR_9, ↓gR_10, ↓sL_0, ↓sL_1, ↓sL_2, ↓sL_3, ↓sL_4, ↓sL_5, ↓sL_6, ↓sL_7, ↓sL_8, ↓sL_9, ↓sL_10, ↓rrf_si, ↓rrf_sg, ↓shO_si, ↓shO_sg, ↓shO_sr, ↓shA_si, ↓shA_sg, ↓shA_sr, ↓pAs_0, ↓pAs_i, ↓pAs_r, stk_n, stk_i, stk_l, stk_r, List.nil_append, List.cons_append, true_and, and_true, true_or, or_true, Nat.zero_add, dp_s, Nat.reduceAdd, le8_0, le8_1, le8_2, le8_3, le8_4, le8_5, le8_6, le8_7, le8_8, Classical.not_not, aT40, aT41, aT42, aT44, aT54, aT58, aT59, rT54, rT58, rT59, reduceIte, Nat.reduceEqDiff, qn_42, qn_44, true_implies, not_true_eq_false, not_false_eq_true, false_implies, ↓shO_of h1.1.1.1, ↓rrf_of h1.1.1.2.2.1, ↓shO_of hq1.1.1]
      refine k97w hq1 (by omega) (fun M2 q2 o2 w2 => ⟨rfl, ?_⟩)
      have h2 := h1.upQ q2 o2 (fun j y a1 hj ha => by
        obtain ⟨j2, y2, hj2, ha2⟩ := wsR_rec (by omega) hj ha
        exact h1.2.2.1.2 j2 y2 a1 hj2 ha2)
      have wx2 := w2 z hz
      refine vc_X 20 _ _ _ _ _ _ _ ?_
      simp only [↓v92_0, ↓v92_1, ↓v92_4, ↓v92_5, ↓v92_8, ↓v92_9, ↓v92_10, ↓v92_13, ↓v92_14, ↓v92_17, ↓v92_18, ↓v92_19, ↓v92_22, ↓v92_23, ↓v92_24, ↓v92_25, ↓v92_28, ↓v92_29, ↓v92_32, ↓v92_33, ↓v92_36, ↓v92_37, ↓v92_40, ↓v92_41, ↓v92_44, ↓qI_c, ↓qL_c, ↓qR_c, ↓pA_o, ↓qC_i, ↓qC_r, ↓oA_s, ↓gI_0, ↓gI_1, ↓gI_2, ↓gI_3, ↓gI_4, ↓gI_5, ↓gI_6, ↓gI_7, ↓gI_8, ↓gI_9, ↓gI_10, ↓gR_0, ↓gR_1, ↓gR_2, ↓gR_3, ↓gR_4, ↓gR_5, ↓gR_6, ↓gR_7, ↓gR_8, ↓gR_9, ↓gR_10, ↓sL_0, ↓sL_1, ↓sL_2, ↓sL_3, ↓sL_4, ↓sL_5, ↓sL_6, ↓sL_7, ↓sL_8, ↓sL_9, ↓sL_10, ↓rrf_si, ↓rrf_sg, ↓shO_si, ↓shO_sg, ↓shO_sr, ↓shA_si, ↓shA_sg, ↓shA_sr, ↓pAs_0, ↓pAs_i, ↓pAs_r, stk_n, stk_i, stk_l, stk_r, List.nil_append, List.cons_append, true_and, and_true, true_or, or_true, Nat.zero_add, dp_s, Nat.reduceAdd, le8_0, le8_1, le8_2, le8_3, le8_4, le8_5, le8_6, le8_7, le8_8, Classical.not_not, aT40, aT41, aT42, aT44, aT54, aT58, aT59, rT54, rT58, rT59, reduceIte, Nat.reduceEqDiff, qn_42, qn_44, true_implies, not_true_eq_false, not_false_eq_true, false_implies, ↓shO_of wx2.1.1, wx2.2.1]
      rw [es] at hk
      refine hk M2 ⟨D1, pmR pm p ws.length, wsR ws p (pm p), im, G, a, ?_, cr _ _ (hRW.gone_ hi.nb h.pm hl (by omega))⟩ (o1.trans o2 (fun y hy => by unfold PQ at hy; omega))
      rw [eq.1, eq.2.1, eq.2.2.1, eq.2.2.2.1, eq.2.2.2.2.1, eq.2.2.2.2.2.1, eq.2.2.2.2.2.2]
      exact h2
    have hDs := h.2.1.1.1.1
    cases hr : s.ws[p].r with
    | none =>
      have hzr : z.2.2.2.1 = none := by
        have := rx.2.2.1
        rw [hr] at this
        cases hq2 : z.2.2.2.1 with
        | none => rfl
        | some a1 => rw [hq2] at this; cases this
      have ht : s.ws[p].t < 128 := (hi.nb.2 _ (List.mem_of_getElem? hw)).2.2.1 hr
      have hzt : z.2.2.1 < 128 := by rw [rx.2.1]; exact ht
      refine vc_X 20 _ _ _ _ _ _ _ ?_
      simp only [↓v92_0, ↓v92_1, ↓v92_4, ↓v92_5, ↓v92_8, ↓v92_9, ↓v92_10, ↓v92_13, ↓v92_14, ↓v92_17, ↓v92_18, ↓v92_19, ↓v92_22, ↓v92_23, ↓v92_24, ↓v92_25, ↓v92_28, ↓v92_29, ↓v92_32, ↓v92_33, ↓v92_36, ↓v92_37, ↓v92_40, ↓v92_41, ↓v92_44, ↓qI_c, ↓qL_c, ↓qR_c, ↓pA_o, ↓qC_i, ↓qC_r, ↓oA_s, ↓gI_0, ↓gI_1, ↓gI_2, ↓gI_3, ↓gI_4, ↓gI_5, ↓gI_6, ↓gI_7, ↓gI_8, ↓gI_9, ↓gI_10, ↓gR_0, ↓gR_1, ↓gR_2, ↓gR_3, ↓gR_4, ↓gR_5, ↓gR_6, ↓gR_7, ↓gR_8, ↓gR_9, ↓gR_10, ↓sL_0, ↓sL_1, ↓sL_2, ↓sL_3, ↓sL_4, ↓sL_5, ↓sL_6, ↓sL_7, ↓sL_8, ↓sL_9, ↓sL_10, ↓rrf_si, ↓rrf_sg, ↓shO_si, ↓shO_sg, ↓shO_sr, ↓shA_si, ↓shA_sg, ↓shA_sr, ↓pAs_0, ↓pAs_i, ↓pAs_r, stk_n, stk_i, stk_l, stk_r, List.nil_append, List.cons_append, true_and, and_true, true_or, or_true, Nat.zero_add, dp_s, Nat.reduceAdd, le8_0, le8_1, le8_2, le8_3, le8_4, le8_5, le8_6, le8_7, le8_8, Classical.not_not, aT40, aT41, aT42, aT44, aT54, aT58, aT59, rT54, rT58, rT59, reduceIte, Nat.reduceEqDiff, qn_42, qn_44, true_implies, not_true_eq_false, not_false_eq_true, false_implies, sn, ↓shO_of h.1.1.1, ↓rrf_of h.1.1.2.1, ↓shO_of hDs]
      refine k96b (Q := (pm, s.md, ws)) h (r.ok hi) hz hzr hzt (fun M1 h1 o1 => ⟨rfl, ?_⟩)
      refine fin M1 (dkF D.1 z 16, D.2) (ldB p s.ws[p] s) h1 (o1.of (fun y hy => by simp at hy; omega)) (landM_B hw hr) (fun pm2 ws2 rw2 => ⟨fun bl i hb hi2 => ?_, r.2.1, r.2.2.1, rw2, r.2.2.2.2⟩) ⟨rfl, rfl, rfl, rfl, rfl, rfl, rfl⟩
      show dkF D.1 z 16 (16 * bl + i) = dkU s.dk s.ws[p].t s.ws[p].y bl i
      unfold dkF dkU
      rw [rx.2.1]
      by_cases c : bl = s.ws[p].t
      · rw [if_pos (by omega), if_pos c, show 16 * bl + i - 16 * s.ws[p].t = i by omega]
        unfold byN
        have hb2 := hi.bt.2 _ (List.mem_of_getElem? hw) hr i
        rw [rx.2.2.2.1 hr i hi2, nT (by omega)]
        omega
      · rw [if_neg (by omega), if_neg c]
        exact r.1 bl i hb hi2
    | some q =>
      have hzr : ∃ a1, z.2.2.2.1 = some a1 ∧ G a1 = q := by
        have := rx.2.2.1
        rw [hr] at this
        cases hq2 : z.2.2.2.1 with
        | none => rw [hq2] at this; cases this
        | some a1 => rw [hq2] at this; exact ⟨a1, rfl, Option.some.inj this⟩
      obtain ⟨a1, hz1, hG1⟩ := hzr
      refine vc_X 20 _ _ _ _ _ _ _ ?_
      simp only [↓v92_0, ↓v92_1, ↓v92_4, ↓v92_5, ↓v92_8, ↓v92_9, ↓v92_10, ↓v92_13, ↓v92_14, ↓v92_17, ↓v92_18, ↓v92_19, ↓v92_22, ↓v92_23, ↓v92_24, ↓v92_25, ↓v92_28, ↓v92_29, ↓v92_32, ↓v92_33, ↓v92_36, ↓v92_37, ↓v92_40, ↓v92_41, ↓v92_44, ↓qI_c, ↓qL_c, ↓qR_c, ↓pA_o, ↓qC_i, ↓qC_r, ↓oA_s, ↓gI_0, ↓gI_1, ↓gI_2, ↓gI_3, ↓gI_4, ↓gI_5, ↓gI_6, ↓gI_7, ↓gI_8, ↓gI_9, ↓gI_10, ↓gR_0, ↓gR_1, ↓gR_2, ↓gR_3, ↓gR_4, ↓gR_5, ↓gR_6, ↓gR_7, ↓gR_8, ↓gR_9, ↓gR_10, ↓sL_0, ↓sL_1, ↓sL_2, ↓sL_3, ↓sL_4, ↓sL_5, ↓sL_6, ↓sL_7, ↓sL_8, ↓sL_9, ↓sL_10, ↓rrf_si, ↓rrf_sg, ↓shO_si, ↓shO_sg, ↓shO_sr, ↓shA_si, ↓shA_sg, ↓shA_sr, ↓pAs_0, ↓pAs_i, ↓pAs_r, stk_n, stk_i, stk_l, stk_r, List.nil_append, List.cons_append, true_and, and_true, true_or, or_true, Nat.zero_add, dp_s, Nat.reduceAdd, le8_0, le8_1, le8_2, le8_3, le8_4, le8_5, le8_6, le8_7, le8_8, Classical.not_not, aT40, aT41, aT42, aT44, aT54, aT58, aT59, rT54, rT58, rT59, reduceIte, Nat.reduceEqDiff, qn_42, qn_44, true_implies, not_true_eq_false, not_false_eq_true, false_implies, sn, ↓shO_of h.1.1.1, ↓rrf_of h.1.1.2.1, ↓shO_of hDs]
      refine k96r (Q := (pm, s.md, ws)) (F := (G, a, s.F.2)) h hz hz1 (fun M1 h1 o1 => ⟨rfl, ?_⟩)
      refine fin M1 _ (ldR p s.ws[p] q s) h1 (o1.mono (fun y hy => by rw [hy]; omega)) (landM_R hw hr) (fun pm2 ws2 rw2 => ?_) ⟨rfl, rfl, rfl, rfl, rfl, rfl, rfl⟩
      have hG1' : (G, a, s.F.2).1 a1 = q := hG1
      rw [hG1']
      by_cases c : q.1 % 2 = 0
      · rw [if_pos c]
        refine ⟨r.1, ?_, ?_, rw2, r.2.2.2.2⟩
        · show G a1 = (slU s.s0 s.s1 q).1
          unfold slU
          rw [if_pos c]
          exact hG1
        · show D.2.2.map G = (slU s.s0 s.s1 q).2
          unfold slU
          rw [if_pos c]
          exact r.2.2.1
      · rw [if_neg c]
        refine ⟨r.1, ?_, ?_, rw2, r.2.2.2.2⟩
        · show G D.2.1 = (slU s.s0 s.s1 q).1
          unfold slU
          rw [if_neg c]
          exact r.2.1
        · show some (G a1) = (slU s.s0 s.s1 q).2
          unfold slU
          rw [if_neg c, hG1]
theorem c91 {d c : Nat} {M : Mm} {k : mQ} {b : Nat} {s : Ms} {x : Int32} (h : CM M b s) (hi : IvS c s) (hk : ∀ M', CM M' b (mIss x s).2 → Fr b M M' → k (some (.inl (mIss x s).1)) M') : XC (d + 5) 91 [.inr (some b), .inl x] M k := by
  have h0 := h
  obtain ⟨D, pm, ws, im, G, a, h, r⟩ := h
  refine xc ?_
  show X (d + 4) 91 0 [some (.inr (some b)), some (.inl x)] [] M k
  refine vc_X 20 _ _ _ _ _ _ _ ?_
  simp only [↓v91_0, ↓v91_1, ↓v91_2, ↓v91_5, ↓qI_c, ↓qL_c, ↓qR_c, ↓pA_o, ↓qC_i, ↓qC_r, ↓oA_s, ↓gI_0, ↓gI_1, ↓gI_2, ↓gI_3, ↓gI_4, ↓gI_5, ↓gI_6, ↓gI_7, ↓gI_8, ↓gI_9, ↓gI_10, ↓gR_0, ↓gR_1, ↓gR_2, ↓gR_3, ↓gR_4, ↓gR_5, ↓gR_6, ↓gR_7, ↓gR_8, ↓gR_9, ↓gR_10, ↓sL_0, ↓sL_1, ↓sL_2, ↓sL_3, ↓sL_4, ↓sL_5, ↓sL_6, ↓sL_7, ↓sL_8, ↓sL_9, ↓sL_10, ↓rrf_si, ↓rrf_sg, ↓shO_si, ↓shO_sg, ↓shO_sr, ↓shA_si, ↓shA_sg, ↓shA_sr, ↓pAs_0, ↓pAs_i, ↓pAs_r, stk_n, stk_i, stk_l, stk_r, List.nil_append, List.cons_append, true_and, and_true, true_or, or_true, Nat.zero_add, dp_s, Nat.reduceAdd, le8_0, le8_1, le8_2, le8_3, le8_4, le8_5, le8_6, le8_7, le8_8, Classical.not_not, aT40, aT41, aT42, aT44, aT54, aT58, aT59, rT54, rT58, rT59, reduceIte, Nat.reduceEqDiff, qn_42, qn_44, true_implies, not_true_eq_false, not_false_eq_true, false_implies, ↓shO_of h.1.1.1]
  refine c92 h0 hi (fun M' h' o' => ⟨_, rfl, ?_⟩)
  refine vc_X 20 _ _ _ _ _ _ _ ?_
  simp only [↓v91_0, ↓v91_1, ↓v91_2, ↓v91_5, ↓qI_c, ↓qL_c, ↓qR_c, ↓pA_o, ↓qC_i, ↓qC_r, ↓oA_s, ↓gI_0, ↓gI_1, ↓gI_2, ↓gI_3, ↓gI_4, ↓gI_5, ↓gI_6, ↓gI_7, ↓gI_8, ↓gI_9, ↓gI_10, ↓gR_0, ↓gR_1, ↓gR_2, ↓gR_3, ↓gR_4, ↓gR_5, ↓gR_6, ↓gR_7, ↓gR_8, ↓gR_9, ↓gR_10, ↓sL_0, ↓sL_1, ↓sL_2, ↓sL_3, ↓sL_4, ↓sL_5, ↓sL_6, ↓sL_7, ↓sL_8, ↓sL_9, ↓sL_10, ↓rrf_si, ↓rrf_sg, ↓shO_si, ↓shO_sg, ↓shO_sr, ↓shA_si, ↓shA_sg, ↓shA_sr, ↓pAs_0, ↓pAs_i, ↓pAs_r, stk_n, stk_i, stk_l, stk_r, List.nil_append, List.cons_append, true_and, and_true, true_or, or_true, Nat.zero_add, dp_s, Nat.reduceAdd, le8_0, le8_1, le8_2, le8_3, le8_4, le8_5, le8_6, le8_7, le8_8, Classical.not_not, aT40, aT41, aT42, aT44, aT54, aT58, aT59, rT54, rT58, rT59, reduceIte, Nat.reduceEqDiff, qn_42, qn_44, true_implies, not_true_eq_false, not_false_eq_true, false_implies]
  exact hk M' h' (o'.fr (fun _ h => h))
