/-! what makes new cells -/
theorem nw_ag (M : Mm) (t : Nat × Nat) (n : Nat) : Ag (fun y => y < M.sz) M (M.nw t n) := fun x hx => by
  have hx : x < M.sz := hx
  refine ⟨by rw [nw_sh, if_neg (by omega)], fun j => ⟨by rw [nw_it, if_neg (by omega)], by rw [nw_lg, if_neg (by omega)], by rw [nw_rf, if_neg (by omega)]⟩⟩
theorem cp_sh (M : Mm) (a : Nat) (t : Nat × Nat) (n x : Nat) : (M.cp a t n).sh x = if x = M.sz then some t else M.sh x := rfl
theorem cp_it (M : Mm) (a : Nat) (t : Nat × Nat) (n x j : Nat) : (M.cp a t n).it x j = if x = M.sz then M.it a j else M.it x j := rfl
theorem cp_ag (M : Mm) (a : Nat) (t : Nat × Nat) (n : Nat) : Ag (fun y => y < M.sz) M (M.cp a t n) := fun x hx => by
  have hx : x < M.sz := hx
  refine ⟨by rw [cp_sh, if_neg (by omega)], fun j => ⟨by rw [cp_it, if_neg (by omega)], ?_, ?_⟩⟩
  · show (if x = M.sz then M.lg a j else M.lg x j) = _
    rw [if_neg (by omega)]
  · show (if x = M.sz then M.rf a j else M.rf x j) = _
    rw [if_neg (by omega)]
theorem Ag.trans {P R : Nat → Prop} {M M' M2 : Mm} (h : Ag P M M') (g : Ag R M' M2) (hR : ∀ x, P x → R x) : Ag P M M2 := fun x hx => by
  obtain ⟨h1, h2⟩ := h x hx
  obtain ⟨g1, g2⟩ := g x (hR x hx)
  exact ⟨g1.trans h1, fun j => ⟨(g2 j).1.trans (h2 j).1, (g2 j).2.1.trans (h2 j).2.1, (g2 j).2.2.trans (h2 j).2.2⟩⟩
theorem k79 {d : Nat} {M : Mm} {k : mQ} {x : Nat} {im : Nat → Nat} {ch : Nat → Option Nat} {tb : TbT} (h : IxC M x im ch tb) (hx : x + 12 ≤ M.sz) (hk : ∀ M' : Mm, M'.sz = M.sz + 1 → M'.sl = M.sl + tb.length → Ag (fun y => y < M.sz) M M' → M'.sh M.sz = some (41, tb.length) → (∀ t z, tb[t]? = some z → M'.it M.sz t = nI z.1) → k (some (.inr (.inr (some M.sz)))) M') : XC (d + 2) 79 [.inr (some x)] M k := by
  have hl := h.2.2.2.1
  generalize hM1 : M.nw (41, tb.length) tb.length = M1
  have g1 : Ag (fun y => y < M.sz) M M1 := by rw [← hM1]; exact nw_ag _ _ _
  have z1 : M1.sz = M.sz + 1 := by rw [← hM1]; rfl
  have l1 : M1.sl = M.sl + tb.length := by rw [← hM1]; rfl
  have s1 : M1.sh M.sz = some (41, tb.length) := by rw [← hM1, nw_sh, if_pos rfl]
  have lop : ∀ (m i : Nat) (M2 : Mm), i + m = tb.length → On [M.sz] M1 M2 → (∀ t z, t < i → tb[t]? = some z → M2.it M.sz t = nI z.1) → X (d + 1) 79 13 [some (.inr (some x)), some (.inr (some M.sz)), some (.inl (nI i))] [] M2 k := by
    intro m
    induction m with
    | zero =>
      intro i M2 hi o hj
      have s2 : M2.sh M.sz = some (41, tb.length) := by rw [o.1]; exact s1
      refine vc_X 30 _ _ _ _ _ _ _ ?_
      simp only [↓v79_0, ↓v79_1, ↓v79_4, ↓v79_5, ↓v79_8, ↓v79_10, ↓v79_11, ↓v79_12, ↓v79_13, ↓v79_14, ↓v79_15, ↓v79_16, ↓v79_19, ↓v79_20, ↓v79_21, ↓v79_22, ↓v79_23, ↓v79_26, ↓v79_27, ↓v79_30, ↓v79_33, ↓v79_34, ↓qI_c, ↓qL_c, ↓qR_c, ↓pA_o, ↓qC_i, ↓qC_r, ↓oA_s, ↓gI_0, ↓gI_1, ↓gI_2, ↓gI_3, ↓gI_4, ↓gI_5, ↓gI_6, ↓gI_7, ↓gI_8, ↓gI_9, ↓gI_10, ↓gR_0, ↓gR_1, ↓gR_2, ↓gR_3, ↓gR_4, ↓gR_5, ↓gR_6, ↓gR_7, ↓gR_8, ↓gR_9, ↓gR_10, ↓sL_0, ↓sL_1, ↓sL_2, ↓sL_3, ↓sL_4, ↓sL_5, ↓sL_6, ↓sL_7, ↓sL_8, ↓sL_9, ↓sL_10, ↓rrf_si, ↓rrf_sg, ↓shO_si, ↓shO_sg, ↓shO_sr, ↓shA_si, ↓shA_sg, ↓shA_sr, ↓pAs_0, ↓pAs_i, ↓pAs_r, stk_n, stk_i, stk_l, stk_r, List.nil_append, List.cons_append, true_and, and_true, true_or, or_true, Nat.zero_add, dp_s, Nat.reduceAdd, le8_0, le8_1, le8_2, le8_3, le8_4, le8_5, le8_6, le8_7, le8_8, Classical.not_not, aT40, aT41, aT42, aT44, aT54, aT58, aT59, rT54, rT58, rT59, reduceIte, Nat.reduceEqDiff, qn_42, qn_44, true_implies, not_true_eq_false, not_false_eq_true, false_implies, ↓shA_of s2, le_T, nT (show i < 2147483648 by omega), nT (show tb.length < 2147483648 by omega)]
      refine ⟨fun _ => ?_, fun c => by omega⟩
      refine hk M2 (by rw [o.2.1]; exact z1) (by rw [o.2.2.1]; exact l1) ?_ s2 (fun t z hz => hj t z (by have := (List.getElem?_eq_some_iff.mp hz).1; omega) hz)
      exact g1.trans ((o.of (P := fun y => y = M.sz) (fun y hy => by simpa using hy)).ag (R := fun y => ¬ y = M.sz) (fun _ h => h)) (fun y hy => by omega)
    | succ m ih =>
      intro i M2 hi o hj
      have s2 : M2.sh M.sz = some (41, tb.length) := by rw [o.1]; exact s1
      have g2 : Ag (fun y => y < M.sz) M M2 := g1.trans ((o.of (P := fun y => y = M.sz) (fun y hy => by simpa using hy)).ag (R := fun y => ¬ y = M.sz) (fun _ h => h)) (fun y hy => by omega)
      have h2 : IxC M2 x im ch tb := h.ag g2 (fun y hy => by unfold PX at hy; omega)
      have hz : tb[i]? = some tb[i] := List.getElem?_eq_getElem (by omega)
      refine vc_X 30 _ _ _ _ _ _ _ ?_
      simp only [↓v79_0, ↓v79_1, ↓v79_4, ↓v79_5, ↓v79_8, ↓v79_10, ↓v79_11, ↓v79_12, ↓v79_13, ↓v79_14, ↓v79_15, ↓v79_16, ↓v79_19, ↓v79_20, ↓v79_21, ↓v79_22, ↓v79_23, ↓v79_26, ↓v79_27, ↓v79_30, ↓v79_33, ↓v79_34, ↓qI_c, ↓qL_c, ↓qR_c, ↓pA_o, ↓qC_i, ↓qC_r, ↓oA_s, ↓gI_0, ↓gI_1, ↓gI_2, ↓gI_3, ↓gI_4, ↓gI_5, ↓gI_6, ↓gI_7, ↓gI_8, ↓gI_9, ↓gI_10, ↓gR_0, ↓gR_1, ↓gR_2, ↓gR_3, ↓gR_4, ↓gR_5, ↓gR_6, ↓gR_7, ↓gR_8, ↓gR_9, ↓gR_10, ↓sL_0, ↓sL_1, ↓sL_2, ↓sL_3, ↓sL_4, ↓sL_5, ↓sL_6, ↓sL_7, ↓sL_8, ↓sL_9, ↓sL_10, ↓rrf_si, ↓rrf_sg, ↓shO_si, ↓shO_sg, ↓shO_sr, ↓shA_si, ↓shA_sg, ↓shA_sr, ↓pAs_0, ↓pAs_i, ↓pAs_r, stk_n, stk_i, stk_l, stk_r, List.nil_append, List.cons_append, true_and, and_true, true_or, or_true, Nat.zero_add, dp_s, Nat.reduceAdd, le8_0, le8_1, le8_2, le8_3, le8_4, le8_5, le8_6, le8_7, le8_8, Classical.not_not, aT40, aT41, aT42, aT44, aT54, aT58, aT59, rT54, rT58, rT59, reduceIte, Nat.reduceEqDiff, qn_42, qn_44, true_implies, not_true_eq_false, not_false_eq_true, false_implies, ↓shA_of s2, le_T, nT (show i < 2147483648 by omega), nT (show tb.length < 2147483648 by omega), ↓shO_of h2.1.1]
      refine ⟨fun c => by omega, fun _ => k80 h2 hz ⟨_, rfl, ?_⟩⟩
      refine vc_X 30 _ _ _ _ _ _ _ ?_
      simp only [↓v79_0, ↓v79_1, ↓v79_4, ↓v79_5, ↓v79_8, ↓v79_10, ↓v79_11, ↓v79_12, ↓v79_13, ↓v79_14, ↓v79_15, ↓v79_16, ↓v79_19, ↓v79_20, ↓v79_21, ↓v79_22, ↓v79_23, ↓v79_26, ↓v79_27, ↓v79_30, ↓v79_33, ↓v79_34, ↓qI_c, ↓qL_c, ↓qR_c, ↓pA_o, ↓qC_i, ↓qC_r, ↓oA_s, ↓gI_0, ↓gI_1, ↓gI_2, ↓gI_3, ↓gI_4, ↓gI_5, ↓gI_6, ↓gI_7, ↓gI_8, ↓gI_9, ↓gI_10, ↓gR_0, ↓gR_1, ↓gR_2, ↓gR_3, ↓gR_4, ↓gR_5, ↓gR_6, ↓gR_7, ↓gR_8, ↓gR_9, ↓gR_10, ↓sL_0, ↓sL_1, ↓sL_2, ↓sL_3, ↓sL_4, ↓sL_5, ↓sL_6, ↓sL_7, ↓sL_8, ↓sL_9, ↓sL_10, ↓rrf_si, ↓rrf_sg, ↓shO_si, ↓shO_sg, ↓shO_sr, ↓shA_si, ↓shA_sg, ↓shA_sr, ↓pAs_0, ↓pAs_i, ↓pAs_r, stk_n, stk_i, stk_l, stk_r, List.nil_append, List.cons_append, true_and, and_true, true_or, or_true, Nat.zero_add, dp_s, Nat.reduceAdd, le8_0, le8_1, le8_2, le8_3, le8_4, le8_5, le8_6, le8_7, le8_8, Classical.not_not, aT40, aT41, aT42, aT44, aT54, aT58, aT59, rT54, rT58, rT59, reduceIte, Nat.reduceEqDiff, qn_42, qn_44, true_implies, not_true_eq_false, not_false_eq_true, false_implies, ↓shA_of s2, nC (show i < 2147483648 by omega), nI_1]
      refine ⟨inB_n (by omega) (by omega), ?_⟩
      refine ih (i + 1) _ (by omega) (o.put (by simp)) (fun t z ht hz2 => ?_)
      rw [si_it]
      by_cases hti : t = i
      · rw [if_pos ⟨rfl, hti⟩]
        subst hti
        rw [hz] at hz2
        cases hz2
        rfl
      · rw [if_neg (fun q => hti q.2)]
        exact hj t z (by omega) hz2
  refine xc ?_
  show X (d + 1) 79 0 [some (.inr (some x)), none, none] [] M k
  have em : imin (nI tb.length) 3 = nI tb.length := by
    unfold imin
    rw [if_neg (by rw [lt_T, T_3, nT (by omega)]; omega)]
  refine vc_X 30 _ _ _ _ _ _ _ ?_
  simp only [↓v79_0, ↓v79_1, ↓v79_4, ↓v79_5, ↓v79_8, ↓v79_10, ↓v79_11, ↓v79_12, ↓v79_13, ↓v79_14, ↓v79_15, ↓v79_16, ↓v79_19, ↓v79_20, ↓v79_21, ↓v79_22, ↓v79_23, ↓v79_26, ↓v79_27, ↓v79_30, ↓v79_33, ↓v79_34, ↓qI_c, ↓qL_c, ↓qR_c, ↓pA_o, ↓qC_i, ↓qC_r, ↓oA_s, ↓gI_0, ↓gI_1, ↓gI_2, ↓gI_3, ↓gI_4, ↓gI_5, ↓gI_6, ↓gI_7, ↓gI_8, ↓gI_9, ↓gI_10, ↓gR_0, ↓gR_1, ↓gR_2, ↓gR_3, ↓gR_4, ↓gR_5, ↓gR_6, ↓gR_7, ↓gR_8, ↓gR_9, ↓gR_10, ↓sL_0, ↓sL_1, ↓sL_2, ↓sL_3, ↓sL_4, ↓sL_5, ↓sL_6, ↓sL_7, ↓sL_8, ↓sL_9, ↓sL_10, ↓rrf_si, ↓rrf_sg, ↓shO_si, ↓shO_sg, ↓shO_sr, ↓shA_si, ↓shA_sg, ↓shA_sr, ↓pAs_0, ↓pAs_i, ↓pAs_r, stk_n, stk_i, stk_l, stk_r, List.nil_append, List.cons_append, true_and, and_true, true_or, or_true, Nat.zero_add, dp_s, Nat.reduceAdd, le8_0, le8_1, le8_2, le8_3, le8_4, le8_5, le8_6, le8_7, le8_8, Classical.not_not, aT40, aT41, aT42, aT44, aT54, aT58, aT59, rT54, rT58, rT59, reduceIte, Nat.reduceEqDiff, qn_42, qn_44, true_implies, not_true_eq_false, not_false_eq_true, false_implies, ↓shO_of h.1.1, h.2.2.1, em, nC (show tb.length < 2147483648 by omega), nT (show tb.length < 2147483648 by omega), hM1]
  refine ⟨by omega, by omega, ?_⟩
  exact lop tb.length 0 M1 (by omega) On.rf_ (fun t z ht => by omega)
theorem k4 {d : Nat} {M : Mm} {k : mQ} {a p q : Nat} {x y z : Int32} (h : M.sh a = some (8, 0)) (hk : ∀ M' : Mm, M'.it a 0 = x → M'.it a 1 = y → M'.it a 2 = z → M'.rf a 3 = some p → M'.rf a 4 = some q → Of (· = a) M M' → k none M') : XC (d + 2) 4 [.inr (some a), .inl x, .inl y, .inl z, .inr (some p), .inr (some q)] M k := by
  refine xc ?_
  show X (d + 1) 4 0 [some (.inr (some a)), some (.inl x), some (.inl y), some (.inl z), some (.inr (some p)), some (.inr (some q))] [] M k
  refine vc_X 40 _ _ _ _ _ _ _ ?_
  simp only [↓v4_0, ↓v4_1, ↓v4_4, ↓v4_5, ↓v4_6, ↓v4_9, ↓v4_10, ↓v4_11, ↓v4_14, ↓v4_15, ↓v4_16, ↓v4_19, ↓v4_20, ↓v4_22, ↓v4_25, ↓v4_26, ↓v4_28, ↓v4_31, ↓qI_c, ↓qL_c, ↓qR_c, ↓pA_o, ↓qC_i, ↓qC_r, ↓oA_s, ↓gI_0, ↓gI_1, ↓gI_2, ↓gI_3, ↓gI_4, ↓gI_5, ↓gI_6, ↓gI_7, ↓gI_8, ↓gI_9, ↓gI_10, ↓gR_0, ↓gR_1, ↓gR_2, ↓gR_3, ↓gR_4, ↓gR_5, ↓gR_6, ↓gR_7, ↓gR_8, ↓gR_9, ↓gR_10, ↓sL_0, ↓sL_1, ↓sL_2, ↓sL_3, ↓sL_4, ↓sL_5, ↓sL_6, ↓sL_7, ↓sL_8, ↓sL_9, ↓sL_10, ↓rrf_si, ↓rrf_sg, ↓shO_si, ↓shO_sg, ↓shO_sr, ↓shA_si, ↓shA_sg, ↓shA_sr, ↓pAs_0, ↓pAs_i, ↓pAs_r, stk_n, stk_i, stk_l, stk_r, List.nil_append, List.cons_append, true_and, and_true, true_or, or_true, Nat.zero_add, dp_s, Nat.reduceAdd, le8_0, le8_1, le8_2, le8_3, le8_4, le8_5, le8_6, le8_7, le8_8, Classical.not_not, aT40, aT41, aT42, aT44, aT54, aT58, aT59, rT54, rT58, rT59, reduceIte, Nat.reduceEqDiff, qn_42, qn_44, true_implies, not_true_eq_false, not_false_eq_true, false_implies, ↓shO_of h]
  have o : Of (· = a) M (((((M.si a 0 x).si a 1 y).si a 2 z).sr a 3 (some p)).sr a 4 (some q)) := (((((Of.rf_ : Of (· = a) M M).i rfl).i rfl).i rfl).r rfl).r rfl
  refine hk _ ?_ ?_ ?_ ?_ ?_ o
  · rw [sr_it, sr_it, si_it, if_neg (by simp), si_it, if_neg (by simp), si_it, if_pos ⟨rfl, rfl⟩]
  · rw [sr_it, sr_it, si_it, if_neg (by simp), si_it, if_pos ⟨rfl, rfl⟩]
  · rw [sr_it, sr_it, si_it, if_pos ⟨rfl, rfl⟩]
  · rw [sr_rf, if_neg (by simp), sr_rf, if_pos ⟨rfl, rfl⟩]
  · rw [sr_rf, if_pos ⟨rfl, rfl⟩]
section
variable {M : Mm} {b : Nat} {D : DT} {Q : QT} {C : List Nat × Nat} {L : (Nat → Nat) × Option Nat} {I : IT} {T : List Nat × List Nat} {E : (Nat → Option Nat) × (Nat → Bool)} {F : FT}
theorem CP.upG {G : Nat → RecT} {a : Nat} (h : CP M b D Q C L I T E F) (hG : ∀ y, y + 3 ≤ M.sz → G y = F.1 y) : CP M b D Q C L I T E (G, F.2) := by
  obtain ⟨h1, h2, h3, h4, h5, h6, h7, h8, h9⟩ := h
  have R : ∀ y, RcC M b F.1 y → RcC M b G y := fun y hy => ⟨by rw [hG y hy.2.2]; exact hy.1, hy.2⟩
  exact ⟨h1, ⟨h2.1, h2.2.1, h2.2.2.1, R _ h2.2.2.2.1, fun y hy => R _ (h2.2.2.2.2 y hy)⟩, ⟨h3.1, fun k x y hk hy => R _ (h3.2 k x y hk hy)⟩, h4, h5, h6, h7, h8, ⟨h9.1, R _ h9.2.1, h9.2.2⟩⟩
end
