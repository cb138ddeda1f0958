/-! Index: tablePlace, hasTableIn, clear, gather, adopt, addOlder -/
theorem EnC.kf {M M' : Mm} {P : Nat → Prop} {a s : Nat} {sp : Nat → Option Nat} {pl : Option Nat} (h : EnC M a s sp pl) (o : Of P M M') (ha : ¬ P a) (hs : ¬ P s) : EnC M' a s sp pl := by
  obtain ⟨⟨b1, b2, b3⟩, h2, h3, h4, h5⟩ := h
  exact ⟨⟨by rw [o.1]; exact b1, by rw [(o.2.2.2 a ha 0).2.2]; exact b2, by rw [o.1]; exact b3⟩, fun k hk => by rw [(o.2.2.2 s hs k).1]; exact h2 k hk, h3, by rw [(o.2.2.2 a ha 1).1]; exact h4, by rw [(o.2.2.2 a ha 2).1]; exact h5⟩
theorem En.kf {M M' : Mm} {P : Nat → Prop} {a s : Nat} (h : En M a s) (o : Of P M M') (ha : ¬ P a) : En M' a s := by
  obtain ⟨b1, b2, b3⟩ := h
  exact ⟨by rw [o.1]; exact b1, by rw [(o.2.2.2 a ha 0).2.2]; exact b2, by rw [o.1]; exact b3⟩
theorem IxS.keep {M M' : Mm} {A : List Nat} {x : Nat} {im : Nat → Nat} (h : IxS M x im) (o : On A M M') : IxS M' x im := by
  obtain ⟨b1, b2, b3, b4, b5, b6, b7, b8, b9⟩ := h
  exact ⟨by rw [o.1]; exact b1, by rw [o.2.2.2.2.1]; exact b2, by rw [o.2.2.2.2.1]; exact b3, by rw [o.2.2.2.2.1]; exact b4, by rw [o.1]; exact b5, fun t ht => by rw [o.2.2.2.2.1]; exact b6 t ht, b7, b8, fun s hs => (b9 s hs).keep o⟩
theorem IxC.keep {M M' : Mm} {A : List Nat} {x : Nat} {im : Nat → Nat} {ch : Nat → Option Nat} {tb : TbT} (h : IxC M x im ch tb) (o : On A M M') (hA : ∀ y, PX x y → y ∉ A) : IxC M' x im ch tb := by
  obtain ⟨b, g1, g2, g3, g4⟩ := h
  refine ⟨b.keep o, g1.keep o (hA _ ⟨by omega, by omega⟩) (hA _ ⟨by omega, by omega⟩), by rw [o.2.2.2.2.2 x (hA _ ⟨by omega, by omega⟩)]; exact g2, g3, fun t z hz => ?_⟩
  have ht : t < 3 := by have := (List.getElem?_eq_some_iff.mp hz).1; omega
  have hi := b.2.2.2.2.2.2.1 t (by omega)
  exact ⟨(g4 t z hz).1.keep o (hA _ ⟨by omega, by omega⟩) (hA _ ⟨by omega, by omega⟩), (g4 t z hz).2⟩
/-- only the fresh one has changed -/
theorem IxC.fresh {M M' : Mm} {x : Nat} {im : Nat → Nat} {ch : Nat → Option Nat} {tb : TbT} (h : IxC M x im ch tb) (o : On [x + 4 + 2 * im 3, x + 5 + 2 * im 3] M M') : IxC M' x im ch tb := by
  obtain ⟨b, g1, g2, g3, g4⟩ := h
  refine ⟨b.keep o, g1.keep o (by simp; omega) (by simp; omega), by rw [o.2.2.2.2.2 x (by simp; omega)]; exact g2, g3, fun t z hz => ?_⟩
  have ht : t < 3 := by have := (List.getElem?_eq_some_iff.mp hz).1; omega
  have hne : im t ≠ im 3 := fun e => by have := b.2.2.2.2.2.2.2.1 t 3 (by omega) (by omega) e; omega
  exact ⟨(g4 t z hz).1.keep o (by simp; omega) (by simp; omega), (g4 t z hz).2⟩
theorem k80 {d : Nat} {M : Mm} {k : mQ} {x t : Nat} {im : Nat → Nat} {ch : Nat → Option Nat} {tb : TbT} {z : Nat × (Nat → Option Nat)} (h : IxC M x im ch tb) (hz : tb[t]? = some z) (hk : k (some (.inl (nI z.1))) M) : XC (d + 1) 80 [.inr (some x), .inl (nI t)] M k := by
  obtain ⟨⟨b1, b2, b3, b4, b5, b6, b7, b8, b9⟩, g1, g2, g3, g4⟩ := id h
  have hlt := (List.getElem?_eq_some_iff.mp hz).1
  have b6' : M.rf (x + 3) (nI t).toNatClampNeg = some (x + 4 + 2 * im t) := by rw [nC (by omega)]; exact b6 t (by omega)
  have e := (g4 t z hz).1
  have e5 : M.it (x + 4 + 2 * im t) 2 = nI z.1 := e.2.2.2.2
  refine xc ?_
  show X d 80 0 [some (.inr (some x)), some (.inl (nI t))] [] M k
  refine vc_X 30 _ _ _ _ _ _ _ ?_
  simp only [↓v80_0, ↓v80_1, ↓v80_4, ↓v80_5, ↓v80_6, ↓v80_9, ↓v80_12, ↓v80_13, ↓v80_14, ↓v80_17, ↓v80_18, ↓v80_21, ↓v80_22, ↓v80_23, ↓v80_26, ↓v80_29, ↓v80_30, ↓qI_c, ↓qL_c, ↓qR_c, ↓pA_o, ↓qC_i, ↓qC_r, ↓oA_s, ↓gI_0, ↓gI_1, ↓gI_2, ↓gI_3, ↓gI_4, ↓gI_5, ↓gI_6, ↓gI_7, ↓gI_8, ↓gI_9, ↓gI_10, ↓gR_0, ↓gR_1, ↓gR_2, ↓gR_3, ↓gR_4, ↓gR_5, ↓gR_6, ↓gR_7, ↓gR_8, ↓gR_9, ↓gR_10, ↓sL_0, ↓sL_1, ↓sL_2, ↓sL_3, ↓sL_4, ↓sL_5, ↓sL_6, ↓sL_7, ↓sL_8, ↓sL_9, ↓sL_10, ↓rrf_si, ↓rrf_sg, ↓shO_si, ↓shO_sg, ↓shO_sr, ↓shA_si, ↓shA_sg, ↓shA_sr, ↓pAs_0, ↓pAs_i, ↓pAs_r, stk_n, stk_i, stk_l, stk_r, List.nil_append, List.cons_append, true_and, and_true, true_or, or_true, Nat.zero_add, dp_s, Nat.reduceAdd, le8_0, le8_1, le8_2, le8_3, le8_4, le8_5, le8_6, le8_7, le8_8, Classical.not_not, aT40, aT41, aT42, aT44, aT54, aT58, aT59, rT54, rT58, rT59, reduceIte, Nat.reduceEqDiff, qn_42, qn_44, true_implies, not_true_eq_false, not_false_eq_true, false_implies, ↓shO_of b1, g2, le_T, lt_T, nT (show t < 2147483648 by omega), nT (show tb.length < 2147483648 by omega), T_3, T_0, ↓rrf_of b3, ↓shA_of b5, ↓rrf_of b6', ↓shO_of e.1.1, e5]
  exact ⟨fun c => by omega, fun _ => ⟨fun c => by omega, fun _ => ⟨fun c => by omega, fun _ => ⟨inB_n (by omega) (by omega), hk⟩⟩⟩⟩
def tabIn (tb : TbT) (e : Nat) : Bool := tb.any (fun z => z.1 / 16 == e)
theorem lop86 {d : Nat} {M : Mm} {k : mQ} {x e : Nat} {im : Nat → Nat} {ch : Nat → Option Nat} {tb : TbT} (h : IxC M x im ch tb) (he : e < 100) : ∀ m t, t + m = tb.length → k (some (.inl (if tabIn (tb.drop t) e then 1 else 0))) M → X d 86 2 [some (.inr (some x)), some (.inl (nI e)), some (.inl (nI t))] [] M k := by
  obtain ⟨⟨b1, b2, b3, b4, b5, b6, b7, b8, b9⟩, g1, g2, g3, g4⟩ := id h
  intro m
  induction m with
  | zero =>
    intro t ht hk
    rw [List.drop_eq_nil_of_le (by omega)] at hk
    have hk : k (some (.inl 0)) M := hk
    refine vc_X 30 _ _ _ _ _ _ _ ?_
    simp only [↓v86_0, ↓v86_1, ↓v86_2, ↓v86_3, ↓v86_4, ↓v86_7, ↓v86_10, ↓v86_11, ↓v86_12, ↓v86_15, ↓v86_16, ↓v86_19, ↓v86_20, ↓v86_21, ↓v86_24, ↓v86_26, ↓v86_27, ↓v86_28, ↓v86_31, ↓v86_32, ↓v86_33, ↓v86_36, ↓v86_39, ↓v86_40, ↓qI_c, ↓qL_c, ↓qR_c, ↓pA_o, ↓qC_i, ↓qC_r, ↓oA_s, ↓gI_0, ↓gI_1, ↓gI_2, ↓gI_3, ↓gI_4, ↓gI_5, ↓gI_6, ↓gI_7, ↓gI_8, ↓gI_9, ↓gI_10, ↓gR_0, ↓gR_1, ↓gR_2, ↓gR_3, ↓gR_4, ↓gR_5, ↓gR_6, ↓gR_7, ↓gR_8, ↓gR_9, ↓gR_10, ↓sL_0, ↓sL_1, ↓sL_2, ↓sL_3, ↓sL_4, ↓sL_5, ↓sL_6, ↓sL_7, ↓sL_8, ↓sL_9, ↓sL_10, ↓rrf_si, ↓rrf_sg, ↓shO_si, ↓shO_sg, ↓shO_sr, ↓shA_si, ↓shA_sg, ↓shA_sr, ↓pAs_0, ↓pAs_i, ↓pAs_r, stk_n, stk_i, stk_l, stk_r, List.nil_append, List.cons_append, true_and, and_true, true_or, or_true, Nat.zero_add, dp_s, Nat.reduceAdd, le8_0, le8_1, le8_2, le8_3, le8_4, le8_5, le8_6, le8_7, le8_8, Classical.not_not, aT40, aT41, aT42, aT44, aT54, aT58, aT59, rT54, rT58, rT59, reduceIte, Nat.reduceEqDiff, qn_42, qn_44, true_implies, not_true_eq_false, not_false_eq_true, false_implies, ↓shO_of b1, g2, le_T, nT (show t < 2147483648 by omega), nT (show tb.length < 2147483648 by omega)]
    exact ⟨fun _ => hk, fun c => by omega⟩
  | succ m ih =>
    intro t ht hk
    have hlt : t < tb.length := by omega
    have hz := g4 t _ (List.getElem?_eq_getElem hlt)
    have b6' : M.rf (x + 3) (nI t).toNatClampNeg = some (x + 4 + 2 * im t) := by rw [nC (by omega)]; exact b6 t (by omega)
    have e5 : M.it (x + 4 + 2 * im t) 2 = nI tb[t].1 := hz.1.2.2.2.2
    have hz2 := hz.2
    refine vc_X 30 _ _ _ _ _ _ _ ?_
    simp only [↓v86_0, ↓v86_1, ↓v86_2, ↓v86_3, ↓v86_4, ↓v86_7, ↓v86_10, ↓v86_11, ↓v86_12, ↓v86_15, ↓v86_16, ↓v86_19, ↓v86_20, ↓v86_21, ↓v86_24, ↓v86_26, ↓v86_27, ↓v86_28, ↓v86_31, ↓v86_32, ↓v86_33, ↓v86_36, ↓v86_39, ↓v86_40, ↓qI_c, ↓qL_c, ↓qR_c, ↓pA_o, ↓qC_i, ↓qC_r, ↓oA_s, ↓gI_0, ↓gI_1, ↓gI_2, ↓gI_3, ↓gI_4, ↓gI_5, ↓gI_6, ↓gI_7, ↓gI_8, ↓gI_9, ↓gI_10, ↓gR_0, ↓gR_1, ↓gR_2, ↓gR_3, ↓gR_4, ↓gR_5, ↓gR_6, ↓gR_7, ↓gR_8, ↓gR_9, ↓gR_10, ↓sL_0, ↓sL_1, ↓sL_2, ↓sL_3, ↓sL_4, ↓sL_5, ↓sL_6, ↓sL_7, ↓sL_8, ↓sL_9, ↓sL_10, ↓rrf_si, ↓rrf_sg, ↓shO_si, ↓shO_sg, ↓shO_sr, ↓shA_si, ↓shA_sg, ↓shA_sr, ↓pAs_0, ↓pAs_i, ↓pAs_r, stk_n, stk_i, stk_l, stk_r, List.nil_append, List.cons_append, true_and, and_true, true_or, or_true, Nat.zero_add, dp_s, Nat.reduceAdd, le8_0, le8_1, le8_2, le8_3, le8_4, le8_5, le8_6, le8_7, le8_8, Classical.not_not, aT40, aT41, aT42, aT44, aT54, aT58, aT59, rT54, rT58, rT59, reduceIte, Nat.reduceEqDiff, qn_42, qn_44, true_implies, not_true_eq_false, not_false_eq_true, false_implies, ↓shO_of b1, g2, le_T, nT (show t < 2147483648 by omega), nT (show tb.length < 2147483648 by omega), T_3, ↓rrf_of b3, ↓shA_of b5, ↓rrf_of b6', ↓shO_of hz.1.1.1, e5, nI_1]
    refine ⟨fun c => by omega, fun _ => ⟨fun c => by omega, fun _ => ⟨inB_n (by omega) (by omega), by decide, ?_⟩⟩⟩
    rw [n_16, pk_div (by omega) (by omega) (by omega), nI_eq (by omega) (by omega)]
    rw [List.drop_eq_getElem_cons hlt] at hk
    have e1 : tabIn (tb[t] :: tb.drop (t + 1)) e = ((tb[t].1 / 16 == e) || tabIn (tb.drop (t + 1)) e) := by unfold tabIn; rw [List.any_cons]
    rw [e1] at hk
    refine ⟨fun c => ?_, fun c => ?_⟩
    · rw [show (tb[t].1 / 16 == e) = false by simp [c], Bool.false_or] at hk
      exact ih (t + 1) (by omega) hk
    · rw [show (tb[t].1 / 16 == e) = true by simp [c], Bool.true_or] at hk
      exact hk
theorem k86 {d : Nat} {M : Mm} {k : mQ} {x e : Nat} {im : Nat → Nat} {ch : Nat → Option Nat} {tb : TbT} (h : IxC M x im ch tb) (he : e < 100) (hk : k (some (.inl (if tabIn tb e then 1 else 0))) M) : XC (d + 1) 86 [.inr (some x), .inl (nI e)] M k := by
  refine xc ?_
  show X d 86 0 [some (.inr (some x)), some (.inl (nI e)), none] [] M k
  refine vc_X 30 _ _ _ _ _ _ _ ?_
  simp only [↓v86_0, ↓v86_1, ↓v86_2, ↓v86_3, ↓v86_4, ↓v86_7, ↓v86_10, ↓v86_11, ↓v86_12, ↓v86_15, ↓v86_16, ↓v86_19, ↓v86_20, ↓v86_21, ↓v86_24, ↓v86_26, ↓v86_27, ↓v86_28, ↓v86_31, ↓v86_32, ↓v86_33, ↓v86_36, ↓v86_39, ↓v86_40, ↓qI_c, ↓qL_c, ↓qR_c, ↓pA_o, ↓qC_i, ↓qC_r, ↓oA_s, ↓gI_0, ↓gI_1, ↓gI_2, ↓gI_3, ↓gI_4, ↓gI_5, ↓gI_6, ↓gI_7, ↓gI_8, ↓gI_9, ↓gI_10, ↓gR_0, ↓gR_1, ↓gR_2, ↓gR_3, ↓gR_4, ↓gR_5, ↓gR_6, ↓gR_7, ↓gR_8, ↓gR_9, ↓gR_10, ↓sL_0, ↓sL_1, ↓sL_2, ↓sL_3, ↓sL_4, ↓sL_5, ↓sL_6, ↓sL_7, ↓sL_8, ↓sL_9, ↓sL_10, ↓rrf_si, ↓rrf_sg, ↓shO_si, ↓shO_sg, ↓shO_sr, ↓shA_si, ↓shA_sg, ↓shA_sr, ↓pAs_0, ↓pAs_i, ↓pAs_r, stk_n, stk_i, stk_l, stk_r, List.nil_append, List.cons_append, true_and, and_true, true_or, or_true, Nat.zero_add, dp_s, Nat.reduceAdd, le8_0, le8_1, le8_2, le8_3, le8_4, le8_5, le8_6, le8_7, le8_8, Classical.not_not, aT40, aT41, aT42, aT44, aT54, aT58, aT59, rT54, rT58, rT59, reduceIte, Nat.reduceEqDiff, qn_42, qn_44, true_implies, not_true_eq_false, not_false_eq_true, false_implies]
  exact lop86 h he tb.length 0 (by omega) hk
theorem k19 {d : Nat} {M : Mm} {k : mQ} {x : Nat} {im : Nat → Nat} {ch : Nat → Option Nat} {tb : TbT} (h : IxC M x im ch tb) (hk : ∀ M', IxC M' x im (fun _ => none) [] → On [x, x + 1, x + 2] M M' → k none M') : XC (d + 3) 19 [.inr (some x)] M k := by
  refine xc ?_
  show X (d + 2) 19 0 [some (.inr (some x))] [] M k
  refine vc_X 30 _ _ _ _ _ _ _ ?_
  simp only [↓v19_0, ↓v19_1, ↓v19_4, ↓v19_7, ↓v19_8, ↓v19_9, ↓v19_12, ↓qI_c, ↓qL_c, ↓qR_c, ↓pA_o, ↓qC_i, ↓qC_r, ↓oA_s, ↓gI_0, ↓gI_1, ↓gI_2, ↓gI_3, ↓gI_4, ↓gI_5, ↓gI_6, ↓gI_7, ↓gI_8, ↓gI_9, ↓gI_10, ↓gR_0, ↓gR_1, ↓gR_2, ↓gR_3, ↓gR_4, ↓gR_5, ↓gR_6, ↓gR_7, ↓gR_8, ↓gR_9, ↓gR_10, ↓sL_0, ↓sL_1, ↓sL_2, ↓sL_3, ↓sL_4, ↓sL_5, ↓sL_6, ↓sL_7, ↓sL_8, ↓sL_9, ↓sL_10, ↓rrf_si, ↓rrf_sg, ↓shO_si, ↓shO_sg, ↓shO_sr, ↓shA_si, ↓shA_sg, ↓shA_sr, ↓pAs_0, ↓pAs_i, ↓pAs_r, stk_n, stk_i, stk_l, stk_r, List.nil_append, List.cons_append, true_and, and_true, true_or, or_true, Nat.zero_add, dp_s, Nat.reduceAdd, le8_0, le8_1, le8_2, le8_3, le8_4, le8_5, le8_6, le8_7, le8_8, Classical.not_not, aT40, aT41, aT42, aT44, aT54, aT58, aT59, rT54, rT58, rT59, reduceIte, Nat.reduceEqDiff, qn_42, qn_44, true_implies, not_true_eq_false, not_false_eq_true, false_implies, ↓shO_of h.1.1, ↓rrf_of h.1.2.1, ↓shO_of h.2.1.1.1]
  refine k11 h.2.1.1 (fun M1 h1 o1 => ⟨rfl, ?_⟩)
  have s1 : M1.sh x = some (5, 0) := by rw [o1.1]; exact h.1.1
  refine vc_X 30 _ _ _ _ _ _ _ ?_
  simp only [↓v19_0, ↓v19_1, ↓v19_4, ↓v19_7, ↓v19_8, ↓v19_9, ↓v19_12, ↓qI_c, ↓qL_c, ↓qR_c, ↓pA_o, ↓qC_i, ↓qC_r, ↓oA_s, ↓gI_0, ↓gI_1, ↓gI_2, ↓gI_3, ↓gI_4, ↓gI_5, ↓gI_6, ↓gI_7, ↓gI_8, ↓gI_9, ↓gI_10, ↓gR_0, ↓gR_1, ↓gR_2, ↓gR_3, ↓gR_4, ↓gR_5, ↓gR_6, ↓gR_7, ↓gR_8, ↓gR_9, ↓gR_10, ↓sL_0, ↓sL_1, ↓sL_2, ↓sL_3, ↓sL_4, ↓sL_5, ↓sL_6, ↓sL_7, ↓sL_8, ↓sL_9, ↓sL_10, ↓rrf_si, ↓rrf_sg, ↓shO_si, ↓shO_sg, ↓shO_sr, ↓shA_si, ↓shA_sg, ↓shA_sr, ↓pAs_0, ↓pAs_i, ↓pAs_r, stk_n, stk_i, stk_l, stk_r, List.nil_append, List.cons_append, true_and, and_true, true_or, or_true, Nat.zero_add, dp_s, Nat.reduceAdd, le8_0, le8_1, le8_2, le8_3, le8_4, le8_5, le8_6, le8_7, le8_8, Classical.not_not, aT40, aT41, aT42, aT44, aT54, aT58, aT59, rT54, rT58, rT59, reduceIte, Nat.reduceEqDiff, qn_42, qn_44, true_implies, not_true_eq_false, not_false_eq_true, false_implies, ↓shO_of s1]
  have o : On [x, x + 1, x + 2] M (M1.si x 2 0) := (o1.mono (by simp)).put (by simp)
  have o2 : On [x] M1 (M1.si x 2 0) := On.rf_.put (by simp)
  refine hk _ ⟨h.1.keep o, h1.keep o2 (by simp) (by simp), ?_, Nat.zero_le _, fun t z hz => by simp at hz⟩ o
  rw [si_it, if_pos ⟨rfl, rfl⟩]
  rfl
theorem k38n {d : Nat} {M : Mm} {k : mQ} {a s j : Nat} (h : En M a s) (hj : j < 48) (hk : k none M) : XC (d + 2) 38 [.inr (some a), .inl (nI j), .inl (-1)] M k := by
  refine xc ?_
  show X (d + 1) 38 0 [some (.inr (some a)), some (.inl (nI j)), some (.inl (-1))] [] M k
  refine vc_X 20 _ _ _ _ _ _ _ ?_
  simp only [↓v38_0, ↓v38_1, ↓v38_4, ↓v38_7, ↓v38_8, ↓v38_9, ↓v38_12, ↓v38_13, ↓v38_14, ↓v38_17, ↓v38_18, ↓v38_19, ↓v38_20, ↓v38_23, ↓v38_24, ↓v38_25, ↓v38_28, ↓v38_29, ↓v38_30, ↓v38_33, ↓v38_34, ↓v38_37, ↓v38_38, ↓v38_39, ↓v38_40, ↓qI_c, ↓qL_c, ↓qR_c, ↓pA_o, ↓qC_i, ↓qC_r, ↓oA_s, ↓gI_0, ↓gI_1, ↓gI_2, ↓gI_3, ↓gI_4, ↓gI_5, ↓gI_6, ↓gI_7, ↓gI_8, ↓gI_9, ↓gI_10, ↓gR_0, ↓gR_1, ↓gR_2, ↓gR_3, ↓gR_4, ↓gR_5, ↓gR_6, ↓gR_7, ↓gR_8, ↓gR_9, ↓gR_10, ↓sL_0, ↓sL_1, ↓sL_2, ↓sL_3, ↓sL_4, ↓sL_5, ↓sL_6, ↓sL_7, ↓sL_8, ↓sL_9, ↓sL_10, ↓rrf_si, ↓rrf_sg, ↓shO_si, ↓shO_sg, ↓shO_sr, ↓shA_si, ↓shA_sg, ↓shA_sr, ↓pAs_0, ↓pAs_i, ↓pAs_r, stk_n, stk_i, stk_l, stk_r, List.nil_append, List.cons_append, true_and, and_true, true_or, or_true, Nat.zero_add, dp_s, Nat.reduceAdd, le8_0, le8_1, le8_2, le8_3, le8_4, le8_5, le8_6, le8_7, le8_8, Classical.not_not, aT40, aT41, aT42, aT44, aT54, aT58, aT59, rT54, rT58, rT59, reduceIte, Nat.reduceEqDiff, qn_42, qn_44, true_implies, not_true_eq_false, not_false_eq_true, false_implies]
  refine k39 (fun _ => ⟨1, rfl, ?_⟩) (fun c => absurd (inB_n hj (by omega)) c)
  refine vc_X 40 _ _ _ _ _ _ _ ?_
  simp only [↓v38_0, ↓v38_1, ↓v38_4, ↓v38_7, ↓v38_8, ↓v38_9, ↓v38_12, ↓v38_13, ↓v38_14, ↓v38_17, ↓v38_18, ↓v38_19, ↓v38_20, ↓v38_23, ↓v38_24, ↓v38_25, ↓v38_28, ↓v38_29, ↓v38_30, ↓v38_33, ↓v38_34, ↓v38_37, ↓v38_38, ↓v38_39, ↓v38_40, ↓qI_c, ↓qL_c, ↓qR_c, ↓pA_o, ↓qC_i, ↓qC_r, ↓oA_s, ↓gI_0, ↓gI_1, ↓gI_2, ↓gI_3, ↓gI_4, ↓gI_5, ↓gI_6, ↓gI_7, ↓gI_8, ↓gI_9, ↓gI_10, ↓gR_0, ↓gR_1, ↓gR_2, ↓gR_3, ↓gR_4, ↓gR_5, ↓gR_6, ↓gR_7, ↓gR_8, ↓gR_9, ↓gR_10, ↓sL_0, ↓sL_1, ↓sL_2, ↓sL_3, ↓sL_4, ↓sL_5, ↓sL_6, ↓sL_7, ↓sL_8, ↓sL_9, ↓sL_10, ↓rrf_si, ↓rrf_sg, ↓shO_si, ↓shO_sg, ↓shO_sr, ↓shA_si, ↓shA_sg, ↓shA_sr, ↓pAs_0, ↓pAs_i, ↓pAs_r, stk_n, stk_i, stk_l, stk_r, List.nil_append, List.cons_append, true_and, and_true, true_or, or_true, Nat.zero_add, dp_s, Nat.reduceAdd, le8_0, le8_1, le8_2, le8_3, le8_4, le8_5, le8_6, le8_7, le8_8, Classical.not_not, aT40, aT41, aT42, aT44, aT54, aT58, aT59, rT54, rT58, rT59, reduceIte, Nat.reduceEqDiff, qn_42, qn_44, true_implies, not_true_eq_false, not_false_eq_true, false_implies, i10, m11]
  exact hk
def frS (mg : Bool) (ch : Nat → Option Nat) (tb : TbT) : Nat → Option Nat := fun k => if mg then plO ch tb (some k) else ch k
def bI (b : Bool) : Int32 := if b then 1 else 0
theorem spI_oI {o : Option Nat} (h : ∀ p, o = some p → p < 128) : oI o = spI o := by
  cases o with
  | none => rfl
  | some p =>
    have := h p rfl
    show nI p = if p = 255 then -2 else nI p
    rw [if_neg (by omega)]
theorem frS_ok {M : Mm} {x : Nat} {im : Nat → Nat} {ch : Nat → Option Nat} {tb : TbT} (h : IxC M x im ch tb) (mg : Bool) : spOK (frS mg ch tb) := by
  intro k p hk hp
  unfold frS at hp
  cases mg with
  | true => exact Or.inr (plO_lt h hk hp)
  | false => exact h.2.1.2.2.1 k p hk hp
theorem lop69 {d : Nat} {k : mQ} {x : Nat} {im : Nat → Nat} {ch : Nat → Option Nat} {tb : TbT} {mg : Bool} : ∀ (m i : Nat) (M : Mm), i + m = 48 → IxC M x im ch tb → EnC M (x + 4 + 2 * im 3) (x + 5 + 2 * im 3) (rst (frS mg ch tb) i) none → (∀ M', IxC M' x im ch tb → EnC M' (x + 4 + 2 * im 3) (x + 5 + 2 * im 3) (frS mg ch tb) none → On [x + 4 + 2 * im 3, x + 5 + 2 * im 3] M M' → k none M') →
    X (d + 3) 69 9 [some (.inr (some x)), some (.inl (bI mg)), some (.inl (nI i))] [] M k := by
  intro m
  induction m with
  | zero =>
    intro i M hi h he hk
    have e : i = 48 := by omega
    rw [e]
    rw [e] at he
    refine vc_X 30 _ _ _ _ _ _ _ ?_
    simp only [↓v69_0, ↓v69_1, ↓v69_4, ↓v69_7, ↓v69_8, ↓v69_9, ↓v69_10, ↓v69_12, ↓v69_15, ↓v69_16, ↓v69_19, ↓v69_20, ↓v69_21, ↓v69_24, ↓v69_25, ↓v69_26, ↓v69_29, ↓v69_32, ↓v69_33, ↓v69_36, ↓v69_37, ↓v69_40, ↓v69_43, ↓v69_46, ↓v69_49, ↓qI_c, ↓qL_c, ↓qR_c, ↓pA_o, ↓qC_i, ↓qC_r, ↓oA_s, ↓gI_0, ↓gI_1, ↓gI_2, ↓gI_3, ↓gI_4, ↓gI_5, ↓gI_6, ↓gI_7, ↓gI_8, ↓gI_9, ↓gI_10, ↓gR_0, ↓gR_1, ↓gR_2, ↓gR_3, ↓gR_4, ↓gR_5, ↓gR_6, ↓gR_7, ↓gR_8, ↓gR_9, ↓gR_10, ↓sL_0, ↓sL_1, ↓sL_2, ↓sL_3, ↓sL_4, ↓sL_5, ↓sL_6, ↓sL_7, ↓sL_8, ↓sL_9, ↓sL_10, ↓rrf_si, ↓rrf_sg, ↓shO_si, ↓shO_sg, ↓shO_sr, ↓shA_si, ↓shA_sg, ↓shA_sr, ↓pAs_0, ↓pAs_i, ↓pAs_r, stk_n, stk_i, stk_l, stk_r, List.nil_append, List.cons_append, true_and, and_true, true_or, or_true, Nat.zero_add, dp_s, Nat.reduceAdd, le8_0, le8_1, le8_2, le8_3, le8_4, le8_5, le8_6, le8_7, le8_8, Classical.not_not, aT40, aT41, aT42, aT44, aT54, aT58, aT59, rT54, rT58, rT59, reduceIte, Nat.reduceEqDiff, qn_42, qn_44, true_implies, not_true_eq_false, not_false_eq_true, false_implies, le_T, T_48, nT (show 48 < 2147483648 by omega)]
    exact ⟨fun _ => hk M h (he.congr (fun j hj => by unfold rst; rw [if_pos hj])) On.rf_, fun c => absurd (by decide) c⟩
  | succ m ih =>
    intro i M hi h he hk
    have hok := frS_ok h mg
    have st : X (d + 3) 69 40 [some (.inr (some x)), some (.inl (bI mg)), some (.inl (nI i))] [.inl (spI (frS mg ch tb i)), .inl (nI i), .inr (.inr (some (x + 4 + 2 * im 3)))] M k := by
      refine vc_X 30 _ _ _ _ _ _ _ ?_
      simp only [↓v69_0, ↓v69_1, ↓v69_4, ↓v69_7, ↓v69_8, ↓v69_9, ↓v69_10, ↓v69_12, ↓v69_15, ↓v69_16, ↓v69_19, ↓v69_20, ↓v69_21, ↓v69_24, ↓v69_25, ↓v69_26, ↓v69_29, ↓v69_32, ↓v69_33, ↓v69_36, ↓v69_37, ↓v69_40, ↓v69_43, ↓v69_46, ↓v69_49, ↓qI_c, ↓qL_c, ↓qR_c, ↓pA_o, ↓qC_i, ↓qC_r, ↓oA_s, ↓gI_0, ↓gI_1, ↓gI_2, ↓gI_3, ↓gI_4, ↓gI_5, ↓gI_6, ↓gI_7, ↓gI_8, ↓gI_9, ↓gI_10, ↓gR_0, ↓gR_1, ↓gR_2, ↓gR_3, ↓gR_4, ↓gR_5, ↓gR_6, ↓gR_7, ↓gR_8, ↓gR_9, ↓gR_10, ↓sL_0, ↓sL_1, ↓sL_2, ↓sL_3, ↓sL_4, ↓sL_5, ↓sL_6, ↓sL_7, ↓sL_8, ↓sL_9, ↓sL_10, ↓rrf_si, ↓rrf_sg, ↓shO_si, ↓shO_sg, ↓shO_sr, ↓shA_si, ↓shA_sg, ↓shA_sr, ↓pAs_0, ↓pAs_i, ↓pAs_r, stk_n, stk_i, stk_l, stk_r, List.nil_append, List.cons_append, true_and, and_true, true_or, or_true, Nat.zero_add, dp_s, Nat.reduceAdd, le8_0, le8_1, le8_2, le8_3, le8_4, le8_5, le8_6, le8_7, le8_8, Classical.not_not, aT40, aT41, aT42, aT44, aT54, aT58, aT59, rT54, rT58, rT59, reduceIte, Nat.reduceEqDiff, qn_42, qn_44, true_implies, not_true_eq_false, not_false_eq_true, false_implies, ↓shO_of he.1.1]
      cases hs : frS mg ch tb i with
      | none =>
        refine k38n he.1 (by omega) ⟨rfl, ?_⟩
        refine vc_X 30 _ _ _ _ _ _ _ ?_
        simp only [↓v69_0, ↓v69_1, ↓v69_4, ↓v69_7, ↓v69_8, ↓v69_9, ↓v69_10, ↓v69_12, ↓v69_15, ↓v69_16, ↓v69_19, ↓v69_20, ↓v69_21, ↓v69_24, ↓v69_25, ↓v69_26, ↓v69_29, ↓v69_32, ↓v69_33, ↓v69_36, ↓v69_37, ↓v69_40, ↓v69_43, ↓v69_46, ↓v69_49, ↓qI_c, ↓qL_c, ↓qR_c, ↓pA_o, ↓qC_i, ↓qC_r, ↓oA_s, ↓gI_0, ↓gI_1, ↓gI_2, ↓gI_3, ↓gI_4, ↓gI_5, ↓gI_6, ↓gI_7, ↓gI_8, ↓gI_9, ↓gI_10, ↓gR_0, ↓gR_1, ↓gR_2, ↓gR_3, ↓gR_4, ↓gR_5, ↓gR_6, ↓gR_7, ↓gR_8, ↓gR_9, ↓gR_10, ↓sL_0, ↓sL_1, ↓sL_2, ↓sL_3, ↓sL_4, ↓sL_5, ↓sL_6, ↓sL_7, ↓sL_8, ↓sL_9, ↓sL_10, ↓rrf_si, ↓rrf_sg, ↓shO_si, ↓shO_sg, ↓shO_sr, ↓shA_si, ↓shA_sg, ↓shA_sr, ↓pAs_0, ↓pAs_i, ↓pAs_r, stk_n, stk_i, stk_l, stk_r, List.nil_append, List.cons_append, true_and, and_true, true_or, or_true, Nat.zero_add, dp_s, Nat.reduceAdd, le8_0, le8_1, le8_2, le8_3, le8_4, le8_5, le8_6, le8_7, le8_8, Classical.not_not, aT40, aT41, aT42, aT44, aT54, aT58, aT59, rT54, rT58, rT59, reduceIte, Nat.reduceEqDiff, qn_42, qn_44, true_implies, not_true_eq_false, not_false_eq_true, false_implies, nI_1]
        exact ih (i + 1) M (by omega) h (by rw [rst_n hs]; exact he) hk
      | some p =>
        refine k38 he (by omega) (hok i p (by omega) hs) (fun M1 h1 o1 => ⟨rfl, ?_⟩)
        refine vc_X 30 _ _ _ _ _ _ _ ?_
        simp only [↓v69_0, ↓v69_1, ↓v69_4, ↓v69_7, ↓v69_8, ↓v69_9, ↓v69_10, ↓v69_12, ↓v69_15, ↓v69_16, ↓v69_19, ↓v69_20, ↓v69_21, ↓v69_24, ↓v69_25, ↓v69_26, ↓v69_29, ↓v69_32, ↓v69_33, ↓v69_36, ↓v69_37, ↓v69_40, ↓v69_43, ↓v69_46, ↓v69_49, ↓qI_c, ↓qL_c, ↓qR_c, ↓pA_o, ↓qC_i, ↓qC_r, ↓oA_s, ↓gI_0, ↓gI_1, ↓gI_2, ↓gI_3, ↓gI_4, ↓gI_5, ↓gI_6, ↓gI_7, ↓gI_8, ↓gI_9, ↓gI_10, ↓gR_0, ↓gR_1, ↓gR_2, ↓gR_3, ↓gR_4, ↓gR_5, ↓gR_6, ↓gR_7, ↓gR_8, ↓gR_9, ↓gR_10, ↓sL_0, ↓sL_1, ↓sL_2, ↓sL_3, ↓sL_4, ↓sL_5, ↓sL_6, ↓sL_7, ↓sL_8, ↓sL_9, ↓sL_10, ↓rrf_si, ↓rrf_sg, ↓shO_si, ↓shO_sg, ↓shO_sr, ↓shA_si, ↓shA_sg, ↓shA_sr, ↓pAs_0, ↓pAs_i, ↓pAs_r, stk_n, stk_i, stk_l, stk_r, List.nil_append, List.cons_append, true_and, and_true, true_or, or_true, Nat.zero_add, dp_s, Nat.reduceAdd, le8_0, le8_1, le8_2, le8_3, le8_4, le8_5, le8_6, le8_7, le8_8, Classical.not_not, aT40, aT41, aT42, aT44, aT54, aT58, aT59, rT54, rT58, rT59, reduceIte, Nat.reduceEqDiff, qn_42, qn_44, true_implies, not_true_eq_false, not_false_eq_true, false_implies, nI_1]
        exact ih (i + 1) M1 (by omega) (h.fresh o1) (by rw [rst_s hs]; exact h1) (fun M2 h2 e2 o2 => hk M2 h2 e2 (o1.trans o2 (fun _ x => x)))
    cases mg with
    | true =>
      have e1 : bI true = 1 := rfl
      rw [e1] at st
      rw [e1]
      refine vc_X 30 _ _ _ _ _ _ _ ?_
      simp only [↓v69_0, ↓v69_1, ↓v69_4, ↓v69_7, ↓v69_8, ↓v69_9, ↓v69_10, ↓v69_12, ↓v69_15, ↓v69_16, ↓v69_19, ↓v69_20, ↓v69_21, ↓v69_24, ↓v69_25, ↓v69_26, ↓v69_29, ↓v69_32, ↓v69_33, ↓v69_36, ↓v69_37, ↓v69_40, ↓v69_43, ↓v69_46, ↓v69_49, ↓qI_c, ↓qL_c, ↓qR_c, ↓pA_o, ↓qC_i, ↓qC_r, ↓oA_s, ↓gI_0, ↓gI_1, ↓gI_2, ↓gI_3, ↓gI_4, ↓gI_5, ↓gI_6, ↓gI_7, ↓gI_8, ↓gI_9, ↓gI_10, ↓gR_0, ↓gR_1, ↓gR_2, ↓gR_3, ↓gR_4, ↓gR_5, ↓gR_6, ↓gR_7, ↓gR_8, ↓gR_9, ↓gR_10, ↓sL_0, ↓sL_1, ↓sL_2, ↓sL_3, ↓sL_4, ↓sL_5, ↓sL_6, ↓sL_7, ↓sL_8, ↓sL_9, ↓sL_10, ↓rrf_si, ↓rrf_sg, ↓shO_si, ↓shO_sg, ↓shO_sr, ↓shA_si, ↓shA_sg, ↓shA_sr, ↓pAs_0, ↓pAs_i, ↓pAs_r, stk_n, stk_i, stk_l, stk_r, List.nil_append, List.cons_append, true_and, and_true, true_or, or_true, Nat.zero_add, dp_s, Nat.reduceAdd, le8_0, le8_1, le8_2, le8_3, le8_4, le8_5, le8_6, le8_7, le8_8, Classical.not_not, aT40, aT41, aT42, aT44, aT54, aT58, aT59, rT54, rT58, rT59, reduceIte, Nat.reduceEqDiff, qn_42, qn_44, true_implies, not_true_eq_false, not_false_eq_true, false_implies, le_T, T_48, nT (show i < 2147483648 by omega), ↓shO_of h.1.1, ↓rrf_of h.1.2.2.2.1, i10]
      refine ⟨fun c => by omega, fun _ => k60 h ⟨_, rfl, ?_⟩⟩
      rw [keyOf_n (by omega), spI_oI (fun p hp => plO_lt h (show i < 48 by omega) hp)]
      refine vc_X 30 _ _ _ _ _ _ _ ?_
      simp only [↓v69_0, ↓v69_1, ↓v69_4, ↓v69_7, ↓v69_8, ↓v69_9, ↓v69_10, ↓v69_12, ↓v69_15, ↓v69_16, ↓v69_19, ↓v69_20, ↓v69_21, ↓v69_24, ↓v69_25, ↓v69_26, ↓v69_29, ↓v69_32, ↓v69_33, ↓v69_36, ↓v69_37, ↓v69_40, ↓v69_43, ↓v69_46, ↓v69_49, ↓qI_c, ↓qL_c, ↓qR_c, ↓pA_o, ↓qC_i, ↓qC_r, ↓oA_s, ↓gI_0, ↓gI_1, ↓gI_2, ↓gI_3, ↓gI_4, ↓gI_5, ↓gI_6, ↓gI_7, ↓gI_8, ↓gI_9, ↓gI_10, ↓gR_0, ↓gR_1, ↓gR_2, ↓gR_3, ↓gR_4, ↓gR_5, ↓gR_6, ↓gR_7, ↓gR_8, ↓gR_9, ↓gR_10, ↓sL_0, ↓sL_1, ↓sL_2, ↓sL_3, ↓sL_4, ↓sL_5, ↓sL_6, ↓sL_7, ↓sL_8, ↓sL_9, ↓sL_10, ↓rrf_si, ↓rrf_sg, ↓shO_si, ↓shO_sg, ↓shO_sr, ↓shA_si, ↓shA_sg, ↓shA_sr, ↓pAs_0, ↓pAs_i, ↓pAs_r, stk_n, stk_i, stk_l, stk_r, List.nil_append, List.cons_append, true_and, and_true, true_or, or_true, Nat.zero_add, dp_s, Nat.reduceAdd, le8_0, le8_1, le8_2, le8_3, le8_4, le8_5, le8_6, le8_7, le8_8, Classical.not_not, aT40, aT41, aT42, aT44, aT54, aT58, aT59, rT54, rT58, rT59, reduceIte, Nat.reduceEqDiff, qn_42, qn_44, true_implies, not_true_eq_false, not_false_eq_true, false_implies]
      exact st
    | false =>
      have e1 : bI false = 0 := rfl
      rw [e1] at st
      rw [e1]
      refine vc_X 30 _ _ _ _ _ _ _ ?_
      simp only [↓v69_0, ↓v69_1, ↓v69_4, ↓v69_7, ↓v69_8, ↓v69_9, ↓v69_10, ↓v69_12, ↓v69_15, ↓v69_16, ↓v69_19, ↓v69_20, ↓v69_21, ↓v69_24, ↓v69_25, ↓v69_26, ↓v69_29, ↓v69_32, ↓v69_33, ↓v69_36, ↓v69_37, ↓v69_40, ↓v69_43, ↓v69_46, ↓v69_49, ↓qI_c, ↓qL_c, ↓qR_c, ↓pA_o, ↓qC_i, ↓qC_r, ↓oA_s, ↓gI_0, ↓gI_1, ↓gI_2, ↓gI_3, ↓gI_4, ↓gI_5, ↓gI_6, ↓gI_7, ↓gI_8, ↓gI_9, ↓gI_10, ↓gR_0, ↓gR_1, ↓gR_2, ↓gR_3, ↓gR_4, ↓gR_5, ↓gR_6, ↓gR_7, ↓gR_8, ↓gR_9, ↓gR_10, ↓sL_0, ↓sL_1, ↓sL_2, ↓sL_3, ↓sL_4, ↓sL_5, ↓sL_6, ↓sL_7, ↓sL_8, ↓sL_9, ↓sL_10, ↓rrf_si, ↓rrf_sg, ↓shO_si, ↓shO_sg, ↓shO_sr, ↓shA_si, ↓shA_sg, ↓shA_sr, ↓pAs_0, ↓pAs_i, ↓pAs_r, stk_n, stk_i, stk_l, stk_r, List.nil_append, List.cons_append, true_and, and_true, true_or, or_true, Nat.zero_add, dp_s, Nat.reduceAdd, le8_0, le8_1, le8_2, le8_3, le8_4, le8_5, le8_6, le8_7, le8_8, Classical.not_not, aT40, aT41, aT42, aT44, aT54, aT58, aT59, rT54, rT58, rT59, reduceIte, Nat.reduceEqDiff, qn_42, qn_44, true_implies, not_true_eq_false, not_false_eq_true, false_implies, le_T, T_48, nT (show i < 2147483648 by omega), ↓shO_of h.1.1, ↓rrf_of h.1.2.2.2.1, i00, ↓rrf_of h.1.2.1, ↓shO_of h.2.1.1.1]
      refine ⟨fun c => by omega, fun _ => k61k h.2.1 ⟨_, rfl, ?_⟩⟩
      rw [keyOf_n (by omega)]
      exact st
theorem k69 {d : Nat} {M : Mm} {k : mQ} {x : Nat} {im : Nat → Nat} {ch : Nat → Option Nat} {tb : TbT} {mg : Bool} (h : IxC M x im ch tb) (hk : ∀ M', IxC M' x im ch tb → EnC M' (x + 4 + 2 * im 3) (x + 5 + 2 * im 3) (frS mg ch tb) none → On [x + 4 + 2 * im 3, x + 5 + 2 * im 3] M M' → k none M') : XC (d + 4) 69 [.inr (some x), .inl (bI mg)] M k := by
  have hE := h.1.2.2.2.2.2.2.2.2 (im 3) (h.1.2.2.2.2.2.2.1 3 (by omega))
  refine xc ?_
  show X (d + 3) 69 0 [some (.inr (some x)), some (.inl (bI mg)), none] [] M k
  refine vc_X 30 _ _ _ _ _ _ _ ?_
  simp only [↓v69_0, ↓v69_1, ↓v69_4, ↓v69_7, ↓v69_8, ↓v69_9, ↓v69_10, ↓v69_12, ↓v69_15, ↓v69_16, ↓v69_19, ↓v69_20, ↓v69_21, ↓v69_24, ↓v69_25, ↓v69_26, ↓v69_29, ↓v69_32, ↓v69_33, ↓v69_36, ↓v69_37, ↓v69_40, ↓v69_43, ↓v69_46, ↓v69_49, ↓qI_c, ↓qL_c, ↓qR_c, ↓pA_o, ↓qC_i, ↓qC_r, ↓oA_s, ↓gI_0, ↓gI_1, ↓gI_2, ↓gI_3, ↓gI_4, ↓gI_5, ↓gI_6, ↓gI_7, ↓gI_8, ↓gI_9, ↓gI_10, ↓gR_0, ↓gR_1, ↓gR_2, ↓gR_3, ↓gR_4, ↓gR_5, ↓gR_6, ↓gR_7, ↓gR_8, ↓gR_9, ↓gR_10, ↓sL_0, ↓sL_1, ↓sL_2, ↓sL_3, ↓sL_4, ↓sL_5, ↓sL_6, ↓sL_7, ↓sL_8, ↓sL_9, ↓sL_10, ↓rrf_si, ↓rrf_sg, ↓shO_si, ↓shO_sg, ↓shO_sr, ↓shA_si, ↓shA_sg, ↓shA_sr, ↓pAs_0, ↓pAs_i, ↓pAs_r, stk_n, stk_i, stk_l, stk_r, List.nil_append, List.cons_append, true_and, and_true, true_or, or_true, Nat.zero_add, dp_s, Nat.reduceAdd, le8_0, le8_1, le8_2, le8_3, le8_4, le8_5, le8_6, le8_7, le8_8, Classical.not_not, aT40, aT41, aT42, aT44, aT54, aT58, aT59, rT54, rT58, rT59, reduceIte, Nat.reduceEqDiff, qn_42, qn_44, true_implies, not_true_eq_false, not_false_eq_true, false_implies, ↓shO_of h.1.1, ↓rrf_of h.1.2.2.2.1, ↓shO_of hE.1]
  refine k11 hE (fun M1 h1 o1 => ⟨rfl, ?_⟩)
  refine vc_X 30 _ _ _ _ _ _ _ ?_
  simp only [↓v69_0, ↓v69_1, ↓v69_4, ↓v69_7, ↓v69_8, ↓v69_9, ↓v69_10, ↓v69_12, ↓v69_15, ↓v69_16, ↓v69_19, ↓v69_20, ↓v69_21, ↓v69_24, ↓v69_25, ↓v69_26, ↓v69_29, ↓v69_32, ↓v69_33, ↓v69_36, ↓v69_37, ↓v69_40, ↓v69_43, ↓v69_46, ↓v69_49, ↓qI_c, ↓qL_c, ↓qR_c, ↓pA_o, ↓qC_i, ↓qC_r, ↓oA_s, ↓gI_0, ↓gI_1, ↓gI_2, ↓gI_3, ↓gI_4, ↓gI_5, ↓gI_6, ↓gI_7, ↓gI_8, ↓gI_9, ↓gI_10, ↓gR_0, ↓gR_1, ↓gR_2, ↓gR_3, ↓gR_4, ↓gR_5, ↓gR_6, ↓gR_7, ↓gR_8, ↓gR_9, ↓gR_10, ↓sL_0, ↓sL_1, ↓sL_2, ↓sL_3, ↓sL_4, ↓sL_5, ↓sL_6, ↓sL_7, ↓sL_8, ↓sL_9, ↓sL_10, ↓rrf_si, ↓rrf_sg, ↓shO_si, ↓shO_sg, ↓shO_sr, ↓shA_si, ↓shA_sg, ↓shA_sr, ↓pAs_0, ↓pAs_i, ↓pAs_r, stk_n, stk_i, stk_l, stk_r, List.nil_append, List.cons_append, true_and, and_true, true_or, or_true, Nat.zero_add, dp_s, Nat.reduceAdd, le8_0, le8_1, le8_2, le8_3, le8_4, le8_5, le8_6, le8_7, le8_8, Classical.not_not, aT40, aT41, aT42, aT44, aT54, aT58, aT59, rT54, rT58, rT59, reduceIte, Nat.reduceEqDiff, qn_42, qn_44, true_implies, not_true_eq_false, not_false_eq_true, false_implies]
  exact lop69 48 0 M1 (by omega) (h.fresh o1) (h1.congr (fun j hj => by unfold rst; rw [if_neg (by omega)])) (fun M2 h2 e2 o2 => hk M2 h2 e2 (o1.trans o2 (fun _ x => x)))
