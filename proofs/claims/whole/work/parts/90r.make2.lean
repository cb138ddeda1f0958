/-! Queue, Index -/
theorem k5 {d : Nat} {M : Mm} {k : mQ} {a : Nat} (h : M.sh a = some (7, 0)) (ha : a + 1 = M.sz) (h1 : M.it a 1 = 0) (h2 : M.it a 2 = 0) (hk : ∀ M', QuC M' a id 0 [] → Gw a 241 2880 M M' → k none M') : XC (d + 3) 5 [.inr (some a)] M k := by
  have lop : ∀ (m i : Nat) (M1 : Mm), i + m = 120 → (M1.sh a = some (7, 0) ∧ M1.rf a 0 = some (a + 1) ∧ M1.sh (a + 1) = some (59, 120) ∧ M1.it a 1 = 0 ∧ M1.it a 2 = 0) → (∀ j, j < i → M1.rf (a + 1) j = some (a + 2 + 2 * j) ∧ Wr M1 (a + 2 + 2 * j) j) → Gw a (1 + 2 * i) (120 + 23 * i) M M1 → X (d + 2) 5 15 [some (.inr (some a)), some (.inl (nI i))] [] M1 k := by
    intro m
    induction m with
    | zero =>
      intro i M1 hi f w g
      have e : i = 120 := by omega
      subst e
      obtain ⟨f1, f2, f3, f4, f5⟩ := f
      refine vc_X 20 _ _ _ _ _ _ _ ?_
      simp only [↓v5_0, ↓v5_1, ↓v5_4, ↓v5_5, ↓v5_7, ↓v5_10, ↓v5_13, ↓v5_14, ↓v5_15, ↓v5_16, ↓v5_18, ↓v5_21, ↓v5_22, ↓v5_25, ↓v5_26, ↓v5_29, ↓v5_30, ↓v5_31, ↓v5_34, ↓v5_35, ↓v5_38, ↓v5_41, ↓qI_c, ↓qL_c, ↓qR_c, ↓pA_o, ↓qC_i, ↓qC_r, ↓oA_s, ↓gI_0, ↓gI_1, ↓gI_2, ↓gI_3, ↓gI_4, ↓gI_5, ↓gI_6, ↓gI_7, ↓gI_8, ↓gI_9, ↓gI_10, ↓gR_0, ↓gR_1, ↓gR_2, ↓gR_3, ↓gR_4, ↓gR_5, ↓gR_6, ↓gR_7, ↓gR_8, ↓gR_9, ↓gR_10, ↓sL_0, ↓sL_1, ↓sL_2, ↓sL_3, ↓sL_4, ↓sL_5, ↓sL_6, ↓sL_7, ↓sL_8, ↓sL_9, ↓sL_10, ↓rrf_si, ↓rrf_sg, ↓shO_si, ↓shO_sg, ↓shO_sr, ↓shA_si, ↓shA_sg, ↓shA_sr, ↓pAs_0, ↓pAs_i, ↓pAs_r, stk_n, stk_i, stk_l, stk_r, List.nil_append, List.cons_append, true_and, and_true, true_or, or_true, Nat.zero_add, dp_s, Nat.reduceAdd, le8_0, le8_1, le8_2, le8_3, le8_4, le8_5, le8_6, le8_7, le8_8, Classical.not_not, aT40, aT41, aT42, aT44, aT54, aT58, aT59, rT54, rT58, rT59, reduceIte, Nat.reduceEqDiff, qn_42, qn_44, true_implies, not_true_eq_false, not_false_eq_true, false_implies, le_T, T_120, nT (show 120 < 2147483648 by omega)]
      refine ⟨fun _ => hk M1 ⟨⟨f1, f2, f3, fun j hj => ⟨(w j hj).1, hj⟩, fun i j _ _ e => e, fun j hj => (w j hj).2⟩, f4, by decide, f5, by decide, fun j x hx => by simp at hx⟩ g, fun c => absurd (by decide) c⟩
    | succ m ih =>
      intro i M1 hi f w g
      obtain ⟨f1, f2, f3, f4, f5⟩ := f
      have z1 : M1.sz = a + 2 + 2 * i := by rw [g.1]; omega
      generalize hM2 : M1.nw (9, 0) 7 = M2
      have g2 : Ag (fun y => y < M1.sz) M1 M2 := by rw [← hM2]; exact nw_ag _ _ _
      have z2 : M2.sz = M1.sz + 1 := by rw [← hM2]; rfl
      have l2 : M2.sl = M1.sl + 7 := by rw [← hM2]; rfl
      have s2 : M2.sh (a + 2 + 2 * i) = some (9, 0) := by rw [← hM2, nw_sh, if_pos z1.symm]
      refine vc_X 40 _ _ _ _ _ _ _ ?_
      simp only [↓v5_0, ↓v5_1, ↓v5_4, ↓v5_5, ↓v5_7, ↓v5_10, ↓v5_13, ↓v5_14, ↓v5_15, ↓v5_16, ↓v5_18, ↓v5_21, ↓v5_22, ↓v5_25, ↓v5_26, ↓v5_29, ↓v5_30, ↓v5_31, ↓v5_34, ↓v5_35, ↓v5_38, ↓v5_41, ↓qI_c, ↓qL_c, ↓qR_c, ↓pA_o, ↓qC_i, ↓qC_r, ↓oA_s, ↓gI_0, ↓gI_1, ↓gI_2, ↓gI_3, ↓gI_4, ↓gI_5, ↓gI_6, ↓gI_7, ↓gI_8, ↓gI_9, ↓gI_10, ↓gR_0, ↓gR_1, ↓gR_2, ↓gR_3, ↓gR_4, ↓gR_5, ↓gR_6, ↓gR_7, ↓gR_8, ↓gR_9, ↓gR_10, ↓sL_0, ↓sL_1, ↓sL_2, ↓sL_3, ↓sL_4, ↓sL_5, ↓sL_6, ↓sL_7, ↓sL_8, ↓sL_9, ↓sL_10, ↓rrf_si, ↓rrf_sg, ↓shO_si, ↓shO_sg, ↓shO_sr, ↓shA_si, ↓shA_sg, ↓shA_sr, ↓pAs_0, ↓pAs_i, ↓pAs_r, stk_n, stk_i, stk_l, stk_r, List.nil_append, List.cons_append, true_and, and_true, true_or, or_true, Nat.zero_add, dp_s, Nat.reduceAdd, le8_0, le8_1, le8_2, le8_3, le8_4, le8_5, le8_6, le8_7, le8_8, Classical.not_not, aT40, aT41, aT42, aT44, aT54, aT58, aT59, rT54, rT58, rT59, reduceIte, Nat.reduceEqDiff, qn_42, qn_44, true_implies, not_true_eq_false, not_false_eq_true, false_implies, le_T, T_120, nT (show i < 2147483648 by omega), ↓shO_of f1, ↓rrf_of f2, hM2, z1]
      refine ⟨fun c => by omega, fun _ => ?_⟩
      refine k6 s2 (by omega) (show i < 120 by omega) (fun M3 w3 g3 => ⟨rfl, ?_⟩)
      have old : ∀ y, y < M1.sz → M3.sh y = M1.sh y ∧ (∀ j, M3.rf y j = M1.rf y j) ∧ ∀ j, M3.it y j = M1.it y j := by
        intro y hy
        have q : y < M2.sz ∧ y ≠ a + 2 + 2 * i := by omega
        exact ⟨by rw [g3.2.2.sh q, g2.sh hy], fun j => by rw [g3.2.2.rf q, g2.rf hy], fun j => by rw [g3.2.2.it q, g2.it hy]⟩
      have t3 : M3.sh (a + 1) = some (59, 120) := by rw [(old (a + 1) (by omega)).1]; exact f3
      refine vc_X 30 _ _ _ _ _ _ _ ?_
      simp only [↓v5_0, ↓v5_1, ↓v5_4, ↓v5_5, ↓v5_7, ↓v5_10, ↓v5_13, ↓v5_14, ↓v5_15, ↓v5_16, ↓v5_18, ↓v5_21, ↓v5_22, ↓v5_25, ↓v5_26, ↓v5_29, ↓v5_30, ↓v5_31, ↓v5_34, ↓v5_35, ↓v5_38, ↓v5_41, ↓qI_c, ↓qL_c, ↓qR_c, ↓pA_o, ↓qC_i, ↓qC_r, ↓oA_s, ↓gI_0, ↓gI_1, ↓gI_2, ↓gI_3, ↓gI_4, ↓gI_5, ↓gI_6, ↓gI_7, ↓gI_8, ↓gI_9, ↓gI_10, ↓gR_0, ↓gR_1, ↓gR_2, ↓gR_3, ↓gR_4, ↓gR_5, ↓gR_6, ↓gR_7, ↓gR_8, ↓gR_9, ↓gR_10, ↓sL_0, ↓sL_1, ↓sL_2, ↓sL_3, ↓sL_4, ↓sL_5, ↓sL_6, ↓sL_7, ↓sL_8, ↓sL_9, ↓sL_10, ↓rrf_si, ↓rrf_sg, ↓shO_si, ↓shO_sg, ↓shO_sr, ↓shA_si, ↓shA_sg, ↓shA_sr, ↓pAs_0, ↓pAs_i, ↓pAs_r, stk_n, stk_i, stk_l, stk_r, List.nil_append, List.cons_append, true_and, and_true, true_or, or_true, Nat.zero_add, dp_s, Nat.reduceAdd, le8_0, le8_1, le8_2, le8_3, le8_4, le8_5, le8_6, le8_7, le8_8, Classical.not_not, aT40, aT41, aT42, aT44, aT54, aT58, aT59, rT54, rT58, rT59, reduceIte, Nat.reduceEqDiff, qn_42, qn_44, true_implies, not_true_eq_false, not_false_eq_true, false_implies, ↓shA_of t3, nC (show i < 2147483648 by omega), nI_1]
      refine ⟨inB_n (by omega) (by omega), fun b' hb' => by cases hb'; exact w3.1, ?_⟩
      generalize hM4 : M3.sr (a + 1) i (some (a + 2 + 2 * i)) = M4
      have o4 : Of (· = a + 1) M3 M4 := by rw [← hM4]; exact (Of.rf_ : Of (· = a + 1) M3 M3).r rfl
      have q4 : ∀ y, y ≠ a + 1 → (∀ j, M4.rf y j = M3.rf y j) ∧ ∀ j, M4.it y j = M3.it y j := fun y hy => ⟨fun j => (o4.2.2.2 y hy j).2.2, fun j => (o4.2.2.2 y hy j).1⟩
      refine ih (i + 1) M4 (by omega) ⟨by rw [o4.1, (old a (by omega)).1]; exact f1, by rw [(q4 a (by omega)).1, (old a (by omega)).2.1]; exact f2, by rw [o4.1]; exact t3, by rw [(q4 a (by omega)).2, (old a (by omega)).2.2]; exact f4, by rw [(q4 a (by omega)).2, (old a (by omega)).2.2]; exact f5⟩ (fun j hj => ?_) ?_
      · by_cases c : j = i
        · subst c
          refine ⟨by rw [← hM4, sr_rf, if_pos ⟨rfl, rfl⟩], ?_⟩
          exact w3.kf o4 (by omega)
        · obtain ⟨w1, w2⟩ := w j (by omega)
          refine ⟨by rw [← hM4, sr_rf, if_neg (fun q => c q.2), (old (a + 1) (by omega)).2.1]; exact w1, ?_⟩
          obtain ⟨y1, y2, y3, y4, y5⟩ := w2
          refine Wr.kf (M := M3) ⟨by rw [(old _ (by omega)).1]; exact y1, by rw [(old _ (by omega)).2.1]; exact y2, by rw [(old _ (by omega)).1]; exact y3, by rw [(old _ (by omega)).2.2]; exact y4, y5⟩ o4 (by omega)
      · refine ⟨by rw [o4.2.1, g3.1, z2, g.1]; omega, by rw [o4.2.2.1, g3.2.1, l2, g.2.1]; omega, ?_⟩
        have g0 := g.1
        exact ((g.2.2.trans g2 (fun x hx => by have : x < M.sz := hx.1; show x < M1.sz; omega)).trans g3.2.2 (fun x hx => by have : x < M.sz := hx.1; omega)).trans (o4.ag (R := fun y => y ≠ a + 1) (fun x hx hP => hx hP)) (fun x hx => by have : x < M.sz := hx.1; omega)
  generalize hM1 : M.nw (59, 120) 120 = M1
  have s1 : M1.sh a = some (7, 0) := by rw [← hM1, nw_sh, if_neg (by omega)]; exact h
  have s2 : M1.sh (a + 1) = some (59, 120) := by rw [← hM1, nw_sh, if_pos ha]
  have g1 : Gw a 1 120 M M1 := by rw [← hM1]; exact Gw.nw a M _ _
  refine xc ?_
  show X (d + 2) 5 0 [some (.inr (some a)), none] [] M k
  refine vc_X 30 _ _ _ _ _ _ _ ?_
  simp only [↓v5_0, ↓v5_1, ↓v5_4, ↓v5_5, ↓v5_7, ↓v5_10, ↓v5_13, ↓v5_14, ↓v5_15, ↓v5_16, ↓v5_18, ↓v5_21, ↓v5_22, ↓v5_25, ↓v5_26, ↓v5_29, ↓v5_30, ↓v5_31, ↓v5_34, ↓v5_35, ↓v5_38, ↓v5_41, ↓qI_c, ↓qL_c, ↓qR_c, ↓pA_o, ↓qC_i, ↓qC_r, ↓oA_s, ↓gI_0, ↓gI_1, ↓gI_2, ↓gI_3, ↓gI_4, ↓gI_5, ↓gI_6, ↓gI_7, ↓gI_8, ↓gI_9, ↓gI_10, ↓gR_0, ↓gR_1, ↓gR_2, ↓gR_3, ↓gR_4, ↓gR_5, ↓gR_6, ↓gR_7, ↓gR_8, ↓gR_9, ↓gR_10, ↓sL_0, ↓sL_1, ↓sL_2, ↓sL_3, ↓sL_4, ↓sL_5, ↓sL_6, ↓sL_7, ↓sL_8, ↓sL_9, ↓sL_10, ↓rrf_si, ↓rrf_sg, ↓shO_si, ↓shO_sg, ↓shO_sr, ↓shA_si, ↓shA_sg, ↓shA_sr, ↓pAs_0, ↓pAs_i, ↓pAs_r, stk_n, stk_i, stk_l, stk_r, List.nil_append, List.cons_append, true_and, and_true, true_or, or_true, Nat.zero_add, dp_s, Nat.reduceAdd, le8_0, le8_1, le8_2, le8_3, le8_4, le8_5, le8_6, le8_7, le8_8, Classical.not_not, aT40, aT41, aT42, aT44, aT54, aT58, aT59, rT54, rT58, rT59, reduceIte, Nat.reduceEqDiff, qn_42, qn_44, true_implies, not_true_eq_false, not_false_eq_true, false_implies, T_120, cl120, hM1, ↓shO_of s1]
  refine ⟨by omega, by omega, ?_⟩
  have o2 : Of (· = a) M1 (M1.sr a 0 (some M.sz)) := (Of.rf_ : Of (· = a) M1 M1).r rfl
  refine lop 120 0 _ (by omega) ⟨s1, ?_, s2, ?_, ?_⟩ (fun j hj => by omega) (g1.trans (Gw.of o2))
  · rw [sr_rf, if_pos ⟨rfl, rfl⟩, ha]
  · rw [sr_it, ← hM1, nw_it, if_neg (by omega)]; exact h1
  · rw [sr_it, ← hM1, nw_it, if_neg (by omega)]; exact h2
theorem k9 {d : Nat} {M : Mm} {k : mQ} {a : Nat} (h : M.sh a = some (5, 0)) (ha : a + 1 = M.sz) (h1 : M.it a 2 = 0) (hk : ∀ M' im, IxC M' a im (fun _ => none) [] → Gw a 11 258 M M' → k none M') : XC (d + 4) 9 [.inr (some a)] M k := by
  have hko : ∀ M', ∀ im, IxC M' a im (fun _ => none) [] → Gw a 11 258 M M' → k none M' := hk
  -- what is there after the table's row and the fresh one were made
  have lop : ∀ (m i : Nat) (M1 : Mm), i + m = 3 → (M1.sh a = some (5, 0) ∧ M1.it a 2 = 0 ∧ M1.rf a 0 = some (a + 1) ∧ M1.rf a 1 = some (a + 3) ∧ M1.rf a 3 = some (a + 4) ∧ M1.sh (a + 3) = some (54, 3)) → EnC M1 (a + 1) (a + 2) (fun _ => none) none → EnC M1 (a + 4) (a + 5) (fun _ => none) none → (∀ j, j < i → M1.rf (a + 3) j = some (a + 6 + 2 * j) ∧ EnC M1 (a + 6 + 2 * j) (a + 7 + 2 * j) (fun _ => none) none) → Gw a (5 + 2 * i) (105 + 51 * i) M M1 → X (d + 3) 9 36 [some (.inr (some a)), some (.inl (nI i))] [] M1 k := by
    intro m
    induction m with
    | zero =>
      intro i M1 hi f e1 e4 w g
      have e : i = 3 := by omega
      subst e
      obtain ⟨f1, f2, f3, f4, f5, f6⟩ := f
      refine vc_X 20 _ _ _ _ _ _ _ ?_
      simp only [↓v9_0, ↓v9_1, ↓v9_4, ↓v9_5, ↓v9_8, ↓v9_9, ↓v9_12, ↓v9_15, ↓v9_16, ↓v9_17, ↓v9_20, ↓v9_23, ↓v9_24, ↓v9_27, ↓v9_28, ↓v9_31, ↓v9_34, ↓v9_35, ↓v9_36, ↓v9_37, ↓v9_38, ↓v9_41, ↓v9_42, ↓v9_45, ↓v9_46, ↓v9_49, ↓v9_50, ↓v9_53, ↓v9_54, ↓v9_57, ↓v9_60, ↓qI_c, ↓qL_c, ↓qR_c, ↓pA_o, ↓qC_i, ↓qC_r, ↓oA_s, ↓gI_0, ↓gI_1, ↓gI_2, ↓gI_3, ↓gI_4, ↓gI_5, ↓gI_6, ↓gI_7, ↓gI_8, ↓gI_9, ↓gI_10, ↓gR_0, ↓gR_1, ↓gR_2, ↓gR_3, ↓gR_4, ↓gR_5, ↓gR_6, ↓gR_7, ↓gR_8, ↓gR_9, ↓gR_10, ↓sL_0, ↓sL_1, ↓sL_2, ↓sL_3, ↓sL_4, ↓sL_5, ↓sL_6, ↓sL_7, ↓sL_8, ↓sL_9, ↓sL_10, ↓rrf_si, ↓rrf_sg, ↓shO_si, ↓shO_sg, ↓shO_sr, ↓shA_si, ↓shA_sg, ↓shA_sr, ↓pAs_0, ↓pAs_i, ↓pAs_r, stk_n, stk_i, stk_l, stk_r, List.nil_append, List.cons_append, true_and, and_true, true_or, or_true, Nat.zero_add, dp_s, Nat.reduceAdd, le8_0, le8_1, le8_2, le8_3, le8_4, le8_5, le8_6, le8_7, le8_8, Classical.not_not, aT40, aT41, aT42, aT44, aT54, aT58, aT59, rT54, rT58, rT59, reduceIte, Nat.reduceEqDiff, qn_42, qn_44, true_implies, not_true_eq_false, not_false_eq_true, false_implies, le_T, T_3, nT (show 3 < 2147483648 by omega)]
      refine ⟨fun _ => hk M1 (fun t => if t = 3 then 0 else t + 1) ⟨⟨f1, f3, f4, f5, f6, fun t ht => ?_, fun t ht => ?_, fun t u ht hu e => ?_, fun s hs => ?_⟩, e1, f2, by decide, fun t z hz => by simp at hz⟩ g, fun c => absurd (by decide) c⟩
      · rw [(w t ht).1]
        show some (a + 6 + 2 * t) = some (a + 4 + 2 * (if t = 3 then 0 else t + 1))
        rw [if_neg (by omega)]
        congr 1
        omega
      · show (if t = 3 then 0 else t + 1) < 4
        split <;> omega
      · have e : (if t = 3 then 0 else t + 1) = if u = 3 then 0 else u + 1 := e
        split at e <;> split at e <;> omega
      · by_cases c : s = 0
        · subst c
          exact e4.1
        · have := (w (s - 1) (by omega)).2.1
          rw [show a + 6 + 2 * (s - 1) = a + 4 + 2 * s by omega, show a + 7 + 2 * (s - 1) = a + 5 + 2 * s by omega] at this
          exact this
    | succ m ih =>
      intro i M1 hi f e1 e4 w g
      obtain ⟨f1, f2, f3, f4, f5, f6⟩ := f
      have z1 : M1.sz = a + 6 + 2 * i := by rw [g.1]; omega
      generalize hM2 : M1.nw (4, 0) 3 = M2
      have g2 : Ag (fun y => y < M1.sz) M1 M2 := by rw [← hM2]; exact nw_ag _ _ _
      have z2 : M2.sz = M1.sz + 1 := by rw [← hM2]; rfl
      have l2 : M2.sl = M1.sl + 3 := by rw [← hM2]; rfl
      have s2 : M2.sh (a + 6 + 2 * i) = some (4, 0) := by rw [← hM2, nw_sh, if_pos z1.symm]
      refine vc_X 40 _ _ _ _ _ _ _ ?_
      simp only [↓v9_0, ↓v9_1, ↓v9_4, ↓v9_5, ↓v9_8, ↓v9_9, ↓v9_12, ↓v9_15, ↓v9_16, ↓v9_17, ↓v9_20, ↓v9_23, ↓v9_24, ↓v9_27, ↓v9_28, ↓v9_31, ↓v9_34, ↓v9_35, ↓v9_36, ↓v9_37, ↓v9_38, ↓v9_41, ↓v9_42, ↓v9_45, ↓v9_46, ↓v9_49, ↓v9_50, ↓v9_53, ↓v9_54, ↓v9_57, ↓v9_60, ↓qI_c, ↓qL_c, ↓qR_c, ↓pA_o, ↓qC_i, ↓qC_r, ↓oA_s, ↓gI_0, ↓gI_1, ↓gI_2, ↓gI_3, ↓gI_4, ↓gI_5, ↓gI_6, ↓gI_7, ↓gI_8, ↓gI_9, ↓gI_10, ↓gR_0, ↓gR_1, ↓gR_2, ↓gR_3, ↓gR_4, ↓gR_5, ↓gR_6, ↓gR_7, ↓gR_8, ↓gR_9, ↓gR_10, ↓sL_0, ↓sL_1, ↓sL_2, ↓sL_3, ↓sL_4, ↓sL_5, ↓sL_6, ↓sL_7, ↓sL_8, ↓sL_9, ↓sL_10, ↓rrf_si, ↓rrf_sg, ↓shO_si, ↓shO_sg, ↓shO_sr, ↓shA_si, ↓shA_sg, ↓shA_sr, ↓pAs_0, ↓pAs_i, ↓pAs_r, stk_n, stk_i, stk_l, stk_r, List.nil_append, List.cons_append, true_and, and_true, true_or, or_true, Nat.zero_add, dp_s, Nat.reduceAdd, le8_0, le8_1, le8_2, le8_3, le8_4, le8_5, le8_6, le8_7, le8_8, Classical.not_not, aT40, aT41, aT42, aT44, aT54, aT58, aT59, rT54, rT58, rT59, reduceIte, Nat.reduceEqDiff, qn_42, qn_44, true_implies, not_true_eq_false, not_false_eq_true, false_implies, le_T, T_3, nT (show i < 2147483648 by omega), ↓shO_of f1, ↓rrf_of f4, hM2, z1]
      refine ⟨fun c => by omega, fun _ => ?_⟩
      refine k10 s2 (by omega) (fun M3 w3 g3 => ⟨rfl, ?_⟩)
      have old : Ag (fun y => y < M1.sz) M1 M3 := g2.trans g3.2.2 (fun x hx => by have : x < M1.sz := hx; omega)
      have t3 : M3.sh (a + 3) = some (54, 3) := by rw [old.sh (show a + 3 < M1.sz by omega)]; exact f6
      refine vc_X 30 _ _ _ _ _ _ _ ?_
      simp only [↓v9_0, ↓v9_1, ↓v9_4, ↓v9_5, ↓v9_8, ↓v9_9, ↓v9_12, ↓v9_15, ↓v9_16, ↓v9_17, ↓v9_20, ↓v9_23, ↓v9_24, ↓v9_27, ↓v9_28, ↓v9_31, ↓v9_34, ↓v9_35, ↓v9_36, ↓v9_37, ↓v9_38, ↓v9_41, ↓v9_42, ↓v9_45, ↓v9_46, ↓v9_49, ↓v9_50, ↓v9_53, ↓v9_54, ↓v9_57, ↓v9_60, ↓qI_c, ↓qL_c, ↓qR_c, ↓pA_o, ↓qC_i, ↓qC_r, ↓oA_s, ↓gI_0, ↓gI_1, ↓gI_2, ↓gI_3, ↓gI_4, ↓gI_5, ↓gI_6, ↓gI_7, ↓gI_8, ↓gI_9, ↓gI_10, ↓gR_0, ↓gR_1, ↓gR_2, ↓gR_3, ↓gR_4, ↓gR_5, ↓gR_6, ↓gR_7, ↓gR_8, ↓gR_9, ↓gR_10, ↓sL_0, ↓sL_1, ↓sL_2, ↓sL_3, ↓sL_4, ↓sL_5, ↓sL_6, ↓sL_7, ↓sL_8, ↓sL_9, ↓sL_10, ↓rrf_si, ↓rrf_sg, ↓shO_si, ↓shO_sg, ↓shO_sr, ↓shA_si, ↓shA_sg, ↓shA_sr, ↓pAs_0, ↓pAs_i, ↓pAs_r, stk_n, stk_i, stk_l, stk_r, List.nil_append, List.cons_append, true_and, and_true, true_or, or_true, Nat.zero_add, dp_s, Nat.reduceAdd, le8_0, le8_1, le8_2, le8_3, le8_4, le8_5, le8_6, le8_7, le8_8, Classical.not_not, aT40, aT41, aT42, aT44, aT54, aT58, aT59, rT54, rT58, rT59, reduceIte, Nat.reduceEqDiff, qn_42, qn_44, true_implies, not_true_eq_false, not_false_eq_true, false_implies, ↓shA_of t3, nC (show i < 2147483648 by omega), nI_1]
      refine ⟨inB_n (by omega) (by omega), fun b' hb' => by cases hb'; exact w3.1.1, ?_⟩
      generalize hM4 : M3.sr (a + 3) i (some (a + 6 + 2 * i)) = M4
      have o4 : Of (· = a + 3) M3 M4 := by rw [← hM4]; exact (Of.rf_ : Of (· = a + 3) M3 M3).r rfl
      have A4 : Ag (fun y => y < M1.sz ∧ y ≠ a + 3) M1 M4 := (old.mono (R := fun y => y < M1.sz ∧ y ≠ a + 3) (fun x hx => hx.1)).trans (o4.ag (R := fun y => y ≠ a + 3) (fun x hx hP => hx hP)) (fun x hx => hx.2)
      have w34 : EnC M4 (a + 6 + 2 * i) (a + 7 + 2 * i) (fun _ => none) none := by
        have := w3.kf o4 (by omega) (by omega)
        rw [show a + 6 + 2 * i + 1 = a + 7 + 2 * i by omega] at this
        exact this
      refine ih (i + 1) M4 (by omega) ⟨by rw [A4.sh (by omega)]; exact f1, by rw [A4.it (by omega)]; exact f2, by rw [A4.rf (by omega)]; exact f3, by rw [A4.rf (by omega)]; exact f4, by rw [A4.rf (by omega)]; exact f5, by rw [o4.1]; exact t3⟩ (e1.ag A4 (by omega) (by omega)) (e4.ag A4 (by omega) (by omega)) (fun j hj => ?_) ?_
      · by_cases c : j = i
        · subst c
          exact ⟨by rw [← hM4, sr_rf, if_pos ⟨rfl, rfl⟩], w34⟩
        · obtain ⟨w1, w2⟩ := w j (by omega)
          refine ⟨by rw [← hM4, sr_rf, if_neg (fun q => c q.2), old.rf (show a + 3 < M1.sz by omega)]; exact w1, w2.ag A4 (by omega) (by omega)⟩
      · refine ⟨by rw [o4.2.1, g3.1, z2, g.1]; omega, by rw [o4.2.2.1, g3.2.1, l2, g.2.1]; omega, ?_⟩
        have g0 := g.1
        exact g.2.2.trans A4 (fun x hx => by have : x < M.sz := hx.1; omega)
  generalize hM1 : M.nw (4, 0) 3 = M1
  have s1 : M1.sh (a + 1) = some (4, 0) := by rw [← hM1, nw_sh, if_pos ha]
  have z1 : M1.sz = a + 2 := by rw [← hM1]; show M.sz + 1 = _; omega
  have g1 : Gw a 1 3 M M1 := by rw [← hM1]; exact Gw.nw a M _ _
  have A1 : Ag (fun y => y < M.sz) M M1 := by rw [← hM1]; exact nw_ag _ _ _
  refine xc ?_
  show X (d + 3) 9 0 [some (.inr (some a)), none] [] M k
  refine vc_X 30 _ _ _ _ _ _ _ ?_
  simp only [↓v9_0, ↓v9_1, ↓v9_4, ↓v9_5, ↓v9_8, ↓v9_9, ↓v9_12, ↓v9_15, ↓v9_16, ↓v9_17, ↓v9_20, ↓v9_23, ↓v9_24, ↓v9_27, ↓v9_28, ↓v9_31, ↓v9_34, ↓v9_35, ↓v9_36, ↓v9_37, ↓v9_38, ↓v9_41, ↓v9_42, ↓v9_45, ↓v9_46, ↓v9_49, ↓v9_50, ↓v9_53, ↓v9_54, ↓v9_57, ↓v9_60, ↓qI_c, ↓qL_c, ↓qR_c, ↓pA_o, ↓qC_i, ↓qC_r, ↓oA_s, ↓gI_0, ↓gI_1, ↓gI_2, ↓gI_3, ↓gI_4, ↓gI_5, ↓gI_6, ↓gI_7, ↓gI_8, ↓gI_9, ↓gI_10, ↓gR_0, ↓gR_1, ↓gR_2, ↓gR_3, ↓gR_4, ↓gR_5, ↓gR_6, ↓gR_7, ↓gR_8, ↓gR_9, ↓gR_10, ↓sL_0, ↓sL_1, ↓sL_2, ↓sL_3, ↓sL_4, ↓sL_5, ↓sL_6, ↓sL_7, ↓sL_8, ↓sL_9, ↓sL_10, ↓rrf_si, ↓rrf_sg, ↓shO_si, ↓shO_sg, ↓shO_sr, ↓shA_si, ↓shA_sg, ↓shA_sr, ↓pAs_0, ↓pAs_i, ↓pAs_r, stk_n, stk_i, stk_l, stk_r, List.nil_append, List.cons_append, true_and, and_true, true_or, or_true, Nat.zero_add, dp_s, Nat.reduceAdd, le8_0, le8_1, le8_2, le8_3, le8_4, le8_5, le8_6, le8_7, le8_8, Classical.not_not, aT40, aT41, aT42, aT44, aT54, aT58, aT59, rT54, rT58, rT59, reduceIte, Nat.reduceEqDiff, qn_42, qn_44, true_implies, not_true_eq_false, not_false_eq_true, false_implies, hM1]
  rw [← ha]
  refine k10 s1 (by omega) (fun M2 e2 g2 => ⟨rfl, ?_⟩)
  have z2 : M2.sz = a + 3 := by rw [g2.1]; omega
  have A2 : Ag (fun y => y ≤ a) M M2 := (A1.mono (R := fun y => y ≤ a) (fun x hx => by have : x ≤ a := hx; omega)).trans g2.2.2 (fun x hx => by have : x ≤ a := hx; omega)
  have s2 : M2.sh a = some (5, 0) := by rw [A2.sh (Nat.le_refl _)]; exact h
  generalize hM3 : M2.sr a 0 (some (a + 1)) = M3
  have o3 : Of (· = a) M2 M3 := by rw [← hM3]; exact (Of.rf_ : Of (· = a) M2 M2).r rfl
  have z3 : M3.sz = a + 3 := by rw [o3.2.1]; exact z2
  have f3 : M3.rf a 0 = some (a + 1) := by rw [← hM3, sr_rf, if_pos ⟨rfl, rfl⟩]
  have s3 : M3.sh a = some (5, 0) := by rw [o3.1]; exact s2
  have i3 : M3.it a 2 = 0 := by rw [← hM3, sr_it, A2.it (Nat.le_refl _)]; exact h1
  generalize hM4 : M3.nw (54, 3) 3 = M4
  have A4 : Ag (fun y => y < a + 3) M3 M4 := by rw [← hM4]; exact (nw_ag M3 _ _).mono (fun x hx => by have : x < a + 3 := hx; show x < M3.sz; omega)
  have z4 : M4.sz = a + 4 := by rw [← hM4]; show M3.sz + 1 = _; omega
  have t4 : M4.sh (a + 3) = some (54, 3) := by rw [← hM4, nw_sh, if_pos z3.symm]
  have s4 : M4.sh a = some (5, 0) := by rw [A4.sh (show a < a + 3 by omega)]; exact s3
  generalize hM5 : M4.sr a 1 (some (a + 3)) = M5
  have o5 : Of (· = a) M4 M5 := by rw [← hM5]; exact (Of.rf_ : Of (· = a) M4 M4).r rfl
  have z5 : M5.sz = a + 4 := by rw [o5.2.1]; exact z4
  generalize hM6 : M5.nw (4, 0) 3 = M6
  have A6 : Ag (fun y => y < a + 4) M5 M6 := by rw [← hM6]; exact (nw_ag M5 _ _).mono (fun x hx => by have : x < a + 4 := hx; show x < M5.sz; omega)
  have z6 : M6.sz = a + 5 := by rw [← hM6]; show M5.sz + 1 = _; omega
  have s6 : M6.sh (a + 4) = some (4, 0) := by rw [← hM6, nw_sh, if_pos z5.symm]
  refine vc_X 40 _ _ _ _ _ _ _ ?_
  simp only [↓v9_0, ↓v9_1, ↓v9_4, ↓v9_5, ↓v9_8, ↓v9_9, ↓v9_12, ↓v9_15, ↓v9_16, ↓v9_17, ↓v9_20, ↓v9_23, ↓v9_24, ↓v9_27, ↓v9_28, ↓v9_31, ↓v9_34, ↓v9_35, ↓v9_36, ↓v9_37, ↓v9_38, ↓v9_41, ↓v9_42, ↓v9_45, ↓v9_46, ↓v9_49, ↓v9_50, ↓v9_53, ↓v9_54, ↓v9_57, ↓v9_60, ↓qI_c, ↓qL_c, ↓qR_c, ↓pA_o, ↓qC_i, ↓qC_r, ↓oA_s, ↓gI_0, ↓gI_1, ↓gI_2, ↓gI_3, ↓gI_4, ↓gI_5, ↓gI_6, ↓gI_7, ↓gI_8, ↓gI_9, ↓gI_10, ↓gR_0, ↓gR_1, ↓gR_2, ↓gR_3, ↓gR_4, ↓gR_5, ↓gR_6, ↓gR_7, ↓gR_8, ↓gR_9, ↓gR_10, ↓sL_0, ↓sL_1, ↓sL_2, ↓sL_3, ↓sL_4, ↓sL_5, ↓sL_6, ↓sL_7, ↓sL_8, ↓sL_9, ↓sL_10, ↓rrf_si, ↓rrf_sg, ↓shO_si, ↓shO_sg, ↓shO_sr, ↓shA_si, ↓shA_sg, ↓shA_sr, ↓pAs_0, ↓pAs_i, ↓pAs_r, stk_n, stk_i, stk_l, stk_r, List.nil_append, List.cons_append, true_and, and_true, true_or, or_true, Nat.zero_add, dp_s, Nat.reduceAdd, le8_0, le8_1, le8_2, le8_3, le8_4, le8_5, le8_6, le8_7, le8_8, Classical.not_not, aT40, aT41, aT42, aT44, aT54, aT58, aT59, rT54, rT58, rT59, reduceIte, Nat.reduceEqDiff, qn_42, qn_44, true_implies, not_true_eq_false, not_false_eq_true, false_implies, ↓shO_of s2, hM3, T_3, cl3, z3, hM4, ↓shO_of s4, hM5, z5, hM6]
  refine ⟨by omega, by omega, ?_⟩
  refine k10 s6 (by omega) (fun M7 e7 g7 => ⟨rfl, ?_⟩)
  have A7 : Ag (fun y => y < a + 4) M5 M7 := A6.trans g7.2.2 (fun x hx => by have : x < a + 4 := hx; omega)
  have s7 : M7.sh a = some (5, 0) := by rw [A7.sh (show a < a + 4 by omega), o5.1]; exact s4
  refine vc_X 40 _ _ _ _ _ _ _ ?_
  simp only [↓v9_0, ↓v9_1, ↓v9_4, ↓v9_5, ↓v9_8, ↓v9_9, ↓v9_12, ↓v9_15, ↓v9_16, ↓v9_17, ↓v9_20, ↓v9_23, ↓v9_24, ↓v9_27, ↓v9_28, ↓v9_31, ↓v9_34, ↓v9_35, ↓v9_36, ↓v9_37, ↓v9_38, ↓v9_41, ↓v9_42, ↓v9_45, ↓v9_46, ↓v9_49, ↓v9_50, ↓v9_53, ↓v9_54, ↓v9_57, ↓v9_60, ↓qI_c, ↓qL_c, ↓qR_c, ↓pA_o, ↓qC_i, ↓qC_r, ↓oA_s, ↓gI_0, ↓gI_1, ↓gI_2, ↓gI_3, ↓gI_4, ↓gI_5, ↓gI_6, ↓gI_7, ↓gI_8, ↓gI_9, ↓gI_10, ↓gR_0, ↓gR_1, ↓gR_2, ↓gR_3, ↓gR_4, ↓gR_5, ↓gR_6, ↓gR_7, ↓gR_8, ↓gR_9, ↓gR_10, ↓sL_0, ↓sL_1, ↓sL_2, ↓sL_3, ↓sL_4, ↓sL_5, ↓sL_6, ↓sL_7, ↓sL_8, ↓sL_9, ↓sL_10, ↓rrf_si, ↓rrf_sg, ↓shO_si, ↓shO_sg, ↓shO_sr, ↓shA_si, ↓shA_sg, ↓shA_sr, ↓pAs_0, ↓pAs_i, ↓pAs_r, stk_n, stk_i, stk_l, stk_r, List.nil_append, List.cons_append, true_and, and_true, true_or, or_true, Nat.zero_add, dp_s, Nat.reduceAdd, le8_0, le8_1, le8_2, le8_3, le8_4, le8_5, le8_6, le8_7, le8_8, Classical.not_not, aT40, aT41, aT42, aT44, aT54, aT58, aT59, rT54, rT58, rT59, reduceIte, Nat.reduceEqDiff, qn_42, qn_44, true_implies, not_true_eq_false, not_false_eq_true, false_implies, ↓shO_of s7]
  generalize hM8 : M7.sr a 3 (some (a + 4)) = M8
  have o8 : Of (· = a) M7 M8 := by rw [← hM8]; exact (Of.rf_ : Of (· = a) M7 M7).r rfl
  have A48 : Ag (fun y => y < a + 4 ∧ y ≠ a) M4 M8 := ((o5.ag (R := fun y => y < a + 4 ∧ y ≠ a) (fun x hx hP => hx.2 hP)).trans A7 (fun x hx => hx.1)).trans (o8.ag (R := fun y => y ≠ a) (fun x hx hP => hx hP)) (fun x hx => hx.2)
  have A28 : Ag (fun y => y < a + 3 ∧ y ≠ a) M2 M8 := ((o3.ag (R := fun y => y < a + 3 ∧ y ≠ a) (fun x hx hP => hx.2 hP)).trans A4 (fun x hx => hx.1)).trans A48 (fun x hx => ⟨by omega, hx.2⟩)
  have r5 : ∀ j, j ≠ 1 → M5.rf a j = M3.rf a j := fun j hj => by rw [← hM5, sr_rf, if_neg (fun q => hj q.2), A4.rf (show a < a + 3 by omega)]
  have r8 : ∀ j, j ≠ 3 → M8.rf a j = M5.rf a j := fun j hj => by rw [← hM8, sr_rf, if_neg (fun q => hj q.2), A7.rf (show a < a + 4 by omega)]
  refine lop 3 0 M8 (by omega) ⟨by rw [o8.1]; exact s7, ?_, ?_, ?_, ?_, ?_⟩ (e2.ag A28 (by omega) (by omega)) (e7.kf o8 (by omega) (by omega)) (fun j hj => by omega) ?_
  · rw [← hM8, sr_it, A7.it (show a < a + 4 by omega), ← hM5, sr_it, A4.it (show a < a + 3 by omega)]; exact i3
  · rw [r8 0 (by omega), r5 0 (by omega)]; exact f3
  · rw [r8 1 (by omega), ← hM5, sr_rf, if_pos ⟨rfl, rfl⟩]
  · rw [← hM8, sr_rf, if_pos ⟨rfl, rfl⟩]
  · rw [o8.1, A7.sh (show a + 3 < a + 4 by omega), o5.1]; exact t4
  · refine ⟨by rw [o8.2.1, g7.1]; omega, ?_, ?_⟩
    · rw [o8.2.2.1, g7.2.1, ← hM6]
      show M5.sl + 3 + 48 = _
      rw [o5.2.2.1, ← hM4]
      show M3.sl + 3 + 3 + 48 = _
      rw [o3.2.2.1, g2.2.1, g1.2.1]
    · have A18 : Ag (fun y => y < M.sz ∧ y ≠ a) M M2 := A2.mono (fun x hx => by have : x < M.sz := hx.1; show x ≤ a; omega)
      exact A18.trans A28 (fun x hx => by have : x < M.sz := hx.1; exact ⟨by omega, hx.2⟩)
