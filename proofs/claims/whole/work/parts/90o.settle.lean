/-! settle, crash -/
theorem mIss_0 {c : Nat} {s : Ms} (h : IvS c s) : mIss 0 s = if s.ws.length = 0 then (-1, s) else (nuM s 0, landM 0 s) := by
  unfold mIss
  by_cases c0 : s.ws.length = 0
  · rw [if_pos c0, c0]
    rfl
  · rw [if_neg c0]
    have hr := rd_first h c0
    have e : rpF (rdM s.ws) 0 0 s.ws.length = some 0 := by
      cases hl : s.ws.length with
      | zero => exact absurd hl c0
      | succ n =>
        show (if (rdM s.ws 0 && decide (nI (cnt (rdM s.ws) 0) = 0)) then some 0 else _) = some 0
        rw [hr]
        rfl
    rw [e]
theorem c99 {d c : Nat} {M : Mm} {k : mQ} {b : Nat} {s : Ms} {x : Int32} (h : CM M b s) (hi : IvS c s) (hc : c ≤ 512) (hk : ∀ M', CM M' b (mSet x s).2 → Fr b M M' → k (some (.inl (mSet x s).1)) M') : XC (d + 5) 99 [.inr (some b), .inl x] M k := by
  refine xc ?_
  show X (d + 4) 99 0 [some (.inr (some b)), some (.inl x), none] [] M k
  unfold mSet at hk
  by_cases c1 : x.toInt < 0 ∨ 200 < x.toInt
  · rw [if_pos c1] at hk
    refine vc_X 20 _ _ _ _ _ _ _ ?_
    simp only [↓v99_0, ↓v99_1, ↓v99_4, ↓v99_5, ↓v99_8, ↓v99_11, ↓v99_12, ↓v99_13, ↓v99_14, ↓v99_15, ↓v99_16, ↓v99_17, ↓v99_20, ↓v99_21, ↓v99_22, ↓v99_25, ↓v99_26, ↓v99_29, ↓v99_30, ↓v99_31, ↓v99_34, ↓v99_37, ↓v99_38, ↓qI_c, ↓qL_c, ↓qR_c, ↓pA_o, ↓qC_i, ↓qC_r, ↓oA_s, ↓gI_0, ↓gI_1, ↓gI_2, ↓gI_3, ↓gI_4, ↓gI_5, ↓gI_6, ↓gI_7, ↓gI_8, ↓gI_9, ↓gI_10, ↓gR_0, ↓gR_1, ↓gR_2, ↓gR_3, ↓gR_4, ↓gR_5, ↓gR_6, ↓gR_7, ↓gR_8, ↓gR_9, ↓gR_10, ↓sL_0, ↓sL_1, ↓sL_2, ↓sL_3, ↓sL_4, ↓sL_5, ↓sL_6, ↓sL_7, ↓sL_8, ↓sL_9, ↓sL_10, ↓rrf_si, ↓rrf_sg, ↓shO_si, ↓shO_sg, ↓shO_sr, ↓shA_si, ↓shA_sg, ↓shA_sr, ↓pAs_0, ↓pAs_i, ↓pAs_r, stk_n, stk_i, stk_l, stk_r, List.nil_append, List.cons_append, true_and, and_true, true_or, or_true, Nat.zero_add, dp_s, Nat.reduceAdd, le8_0, le8_1, le8_2, le8_3, le8_4, le8_5, le8_6, le8_7, le8_8, Classical.not_not, aT40, aT41, aT42, aT44, aT54, aT58, aT59, rT54, rT58, rT59, reduceIte, Nat.reduceEqDiff, qn_42, qn_44, true_implies, not_true_eq_false, not_false_eq_true, false_implies, lt_T, le_T, T_0, T_200]
    exact ⟨fun _ => hk M h Fr.rf_, fun c2 => ⟨fun c3 => absurd c1 (by omega), fun _ => hk M h Fr.rf_⟩⟩
  · rw [if_neg c1] at hk
    obtain ⟨n, hn, rfl⟩ := inB_of (x := x) (n := 201) ⟨by omega, by omega⟩ (by omega)
    rw [nT (by omega), Int.toNat_natCast] at hk
    have lop : ∀ (m i : Nat) (M1 : Mm) (s1 : Ms), i + m = n → CM M1 b s1 → IvS c s1 → Of (fun y => b ≤ y ∧ y < b + 279) M M1 → (∀ M', CM M' b (stN (min m s1.ws.length) s1) → Fr b M M' → k (some (.inl (nI (i + min m s1.ws.length)))) M') → X (d + 4) 99 15 [some (.inr (some b)), some (.inl (nI n)), some (.inl (nI i))] [] M1 k := by
      intro m
      induction m with
      | zero =>
        intro i M1 s1 him h1 i1 o1 hk2
        have e : i = n := by omega
        subst e
        rw [Nat.zero_min] at hk2
        refine vc_X 20 _ _ _ _ _ _ _ ?_
        simp only [↓v99_0, ↓v99_1, ↓v99_4, ↓v99_5, ↓v99_8, ↓v99_11, ↓v99_12, ↓v99_13, ↓v99_14, ↓v99_15, ↓v99_16, ↓v99_17, ↓v99_20, ↓v99_21, ↓v99_22, ↓v99_25, ↓v99_26, ↓v99_29, ↓v99_30, ↓v99_31, ↓v99_34, ↓v99_37, ↓v99_38, ↓qI_c, ↓qL_c, ↓qR_c, ↓pA_o, ↓qC_i, ↓qC_r, ↓oA_s, ↓gI_0, ↓gI_1, ↓gI_2, ↓gI_3, ↓gI_4, ↓gI_5, ↓gI_6, ↓gI_7, ↓gI_8, ↓gI_9, ↓gI_10, ↓gR_0, ↓gR_1, ↓gR_2, ↓gR_3, ↓gR_4, ↓gR_5, ↓gR_6, ↓gR_7, ↓gR_8, ↓gR_9, ↓gR_10, ↓sL_0, ↓sL_1, ↓sL_2, ↓sL_3, ↓sL_4, ↓sL_5, ↓sL_6, ↓sL_7, ↓sL_8, ↓sL_9, ↓sL_10, ↓rrf_si, ↓rrf_sg, ↓shO_si, ↓shO_sg, ↓shO_sr, ↓shA_si, ↓shA_sg, ↓shA_sr, ↓pAs_0, ↓pAs_i, ↓pAs_r, stk_n, stk_i, stk_l, stk_r, List.nil_append, List.cons_append, true_and, and_true, true_or, or_true, Nat.zero_add, dp_s, Nat.reduceAdd, le8_0, le8_1, le8_2, le8_3, le8_4, le8_5, le8_6, le8_7, le8_8, Classical.not_not, aT40, aT41, aT42, aT44, aT54, aT58, aT59, rT54, rT58, rT59, reduceIte, Nat.reduceEqDiff, qn_42, qn_44, true_implies, not_true_eq_false, not_false_eq_true, false_implies, le_T, nT (show i < 2147483648 by omega), Int.le_refl]
        exact hk2 M1 h1 (o1.fr (fun _ h => h))
      | succ m ih =>
        intro i M1 s1 him h1 i1 o1 hk2
        have h1' := h1
        obtain ⟨D, pm, ws, im, G, a, q1, r1⟩ := h1'
        refine vc_X 20 _ _ _ _ _ _ _ ?_
        simp only [↓v99_0, ↓v99_1, ↓v99_4, ↓v99_5, ↓v99_8, ↓v99_11, ↓v99_12, ↓v99_13, ↓v99_14, ↓v99_15, ↓v99_16, ↓v99_17, ↓v99_20, ↓v99_21, ↓v99_22, ↓v99_25, ↓v99_26, ↓v99_29, ↓v99_30, ↓v99_31, ↓v99_34, ↓v99_37, ↓v99_38, ↓qI_c, ↓qL_c, ↓qR_c, ↓pA_o, ↓qC_i, ↓qC_r, ↓oA_s, ↓gI_0, ↓gI_1, ↓gI_2, ↓gI_3, ↓gI_4, ↓gI_5, ↓gI_6, ↓gI_7, ↓gI_8, ↓gI_9, ↓gI_10, ↓gR_0, ↓gR_1, ↓gR_2, ↓gR_3, ↓gR_4, ↓gR_5, ↓gR_6, ↓gR_7, ↓gR_8, ↓gR_9, ↓gR_10, ↓sL_0, ↓sL_1, ↓sL_2, ↓sL_3, ↓sL_4, ↓sL_5, ↓sL_6, ↓sL_7, ↓sL_8, ↓sL_9, ↓sL_10, ↓rrf_si, ↓rrf_sg, ↓shO_si, ↓shO_sg, ↓shO_sr, ↓shA_si, ↓shA_sg, ↓shA_sr, ↓pAs_0, ↓pAs_i, ↓pAs_r, stk_n, stk_i, stk_l, stk_r, List.nil_append, List.cons_append, true_and, and_true, true_or, or_true, Nat.zero_add, dp_s, Nat.reduceAdd, le8_0, le8_1, le8_2, le8_3, le8_4, le8_5, le8_6, le8_7, le8_8, Classical.not_not, aT40, aT41, aT42, aT44, aT54, aT58, aT59, rT54, rT58, rT59, reduceIte, Nat.reduceEqDiff, qn_42, qn_44, true_implies, not_true_eq_false, not_false_eq_true, false_implies, le_T, nT (show i < 2147483648 by omega), nT (show n < 2147483648 by omega), ↓shO_of q1.1.1.1]
        refine ⟨fun c => by omega, fun _ => c92 h1 i1 (fun M2 h2 o2 => ⟨_, rfl, ?_⟩)⟩
        have e0 := mIss_0 i1
        by_cases c0 : s1.ws.length = 0
        · rw [if_pos c0] at e0
          rw [e0] at h2 ⊢
          rw [c0, Nat.min_zero] at hk2
          refine vc_X 20 _ _ _ _ _ _ _ ?_
          simp only [↓v99_0, ↓v99_1, ↓v99_4, ↓v99_5, ↓v99_8, ↓v99_11, ↓v99_12, ↓v99_13, ↓v99_14, ↓v99_15, ↓v99_16, ↓v99_17, ↓v99_20, ↓v99_21, ↓v99_22, ↓v99_25, ↓v99_26, ↓v99_29, ↓v99_30, ↓v99_31, ↓v99_34, ↓v99_37, ↓v99_38, ↓qI_c, ↓qL_c, ↓qR_c, ↓pA_o, ↓qC_i, ↓qC_r, ↓oA_s, ↓gI_0, ↓gI_1, ↓gI_2, ↓gI_3, ↓gI_4, ↓gI_5, ↓gI_6, ↓gI_7, ↓gI_8, ↓gI_9, ↓gI_10, ↓gR_0, ↓gR_1, ↓gR_2, ↓gR_3, ↓gR_4, ↓gR_5, ↓gR_6, ↓gR_7, ↓gR_8, ↓gR_9, ↓gR_10, ↓sL_0, ↓sL_1, ↓sL_2, ↓sL_3, ↓sL_4, ↓sL_5, ↓sL_6, ↓sL_7, ↓sL_8, ↓sL_9, ↓sL_10, ↓rrf_si, ↓rrf_sg, ↓shO_si, ↓shO_sg, ↓shO_sr, ↓shA_si, ↓shA_sg, ↓shA_sr, ↓pAs_0, ↓pAs_i, ↓pAs_r, stk_n, stk_i, stk_l, stk_r, List.nil_append, List.cons_append, true_and, and_true, true_or, or_true, Nat.zero_add, dp_s, Nat.reduceAdd, le8_0, le8_1, le8_2, le8_3, le8_4, le8_5, le8_6, le8_7, le8_8, Classical.not_not, aT40, aT41, aT42, aT44, aT54, aT58, aT59, rT54, rT58, rT59, reduceIte, Nat.reduceEqDiff, qn_42, qn_44, true_implies, not_true_eq_false, not_false_eq_true, false_implies, m11]
          exact hk2 M2 h2 ((o1.trans o2 (fun _ h => h)).fr (fun _ h => h))
        · rw [if_neg c0] at e0
          rw [e0] at h2 ⊢
          have hw : s1.ws[0]? = some s1.ws[0] := List.getElem?_eq_getElem (by omega)
          have enu : nuM s1 0 = nI s1.ws[0].n := by unfold nuM; rw [hw]
          have hn1 := (i1.nb.2 _ (List.mem_of_getElem? hw)).1
          have hmd : s1.md ≤ 30 * c := i1.2.2.1.2.1
          have hl := land_len (s := s1) (i := 0) (by omega)
          show X _ 99 25 _ [.inl (nuM s1 0)] M2 k
          rw [enu]
          refine vc_X 20 _ _ _ _ _ _ _ ?_
          simp only [↓v99_0, ↓v99_1, ↓v99_4, ↓v99_5, ↓v99_8, ↓v99_11, ↓v99_12, ↓v99_13, ↓v99_14, ↓v99_15, ↓v99_16, ↓v99_17, ↓v99_20, ↓v99_21, ↓v99_22, ↓v99_25, ↓v99_26, ↓v99_29, ↓v99_30, ↓v99_31, ↓v99_34, ↓v99_37, ↓v99_38, ↓qI_c, ↓qL_c, ↓qR_c, ↓pA_o, ↓qC_i, ↓qC_r, ↓oA_s, ↓gI_0, ↓gI_1, ↓gI_2, ↓gI_3, ↓gI_4, ↓gI_5, ↓gI_6, ↓gI_7, ↓gI_8, ↓gI_9, ↓gI_10, ↓gR_0, ↓gR_1, ↓gR_2, ↓gR_3, ↓gR_4, ↓gR_5, ↓gR_6, ↓gR_7, ↓gR_8, ↓gR_9, ↓gR_10, ↓sL_0, ↓sL_1, ↓sL_2, ↓sL_3, ↓sL_4, ↓sL_5, ↓sL_6, ↓sL_7, ↓sL_8, ↓sL_9, ↓sL_10, ↓rrf_si, ↓rrf_sg, ↓shO_si, ↓shO_sg, ↓shO_sr, ↓shA_si, ↓shA_sg, ↓shA_sr, ↓pAs_0, ↓pAs_i, ↓pAs_r, stk_n, stk_i, stk_l, stk_r, List.nil_append, List.cons_append, true_and, and_true, true_or, or_true, Nat.zero_add, dp_s, Nat.reduceAdd, le8_0, le8_1, le8_2, le8_3, le8_4, le8_5, le8_6, le8_7, le8_8, Classical.not_not, aT40, aT41, aT42, aT44, aT54, aT58, aT59, rT54, rT58, rT59, reduceIte, Nat.reduceEqDiff, qn_42, qn_44, true_implies, not_true_eq_false, not_false_eq_true, false_implies, nI_nm (show s1.ws[0].n < 2147483648 by omega) (show ((-1 : Int32)).toInt < 0 by decide), nI_1]
          refine ih (i + 1) M2 (landM 0 s1) (by omega) h2 (inv_land i1 (rd_first i1 c0)) (o1.trans o2 (fun _ h => h)) (fun M' h' f' => ?_)
          have em : min (m + 1) s1.ws.length = min m (landM 0 s1).ws.length + 1 := by omega
          rw [em] at hk2
          have := hk2 M' h' f'
          rw [show i + (min m (landM 0 s1).ws.length + 1) = i + 1 + min m (landM 0 s1).ws.length by omega] at this
          exact this
    refine vc_X 20 _ _ _ _ _ _ _ ?_
    simp only [↓v99_0, ↓v99_1, ↓v99_4, ↓v99_5, ↓v99_8, ↓v99_11, ↓v99_12, ↓v99_13, ↓v99_14, ↓v99_15, ↓v99_16, ↓v99_17, ↓v99_20, ↓v99_21, ↓v99_22, ↓v99_25, ↓v99_26, ↓v99_29, ↓v99_30, ↓v99_31, ↓v99_34, ↓v99_37, ↓v99_38, ↓qI_c, ↓qL_c, ↓qR_c, ↓pA_o, ↓qC_i, ↓qC_r, ↓oA_s, ↓gI_0, ↓gI_1, ↓gI_2, ↓gI_3, ↓gI_4, ↓gI_5, ↓gI_6, ↓gI_7, ↓gI_8, ↓gI_9, ↓gI_10, ↓gR_0, ↓gR_1, ↓gR_2, ↓gR_3, ↓gR_4, ↓gR_5, ↓gR_6, ↓gR_7, ↓gR_8, ↓gR_9, ↓gR_10, ↓sL_0, ↓sL_1, ↓sL_2, ↓sL_3, ↓sL_4, ↓sL_5, ↓sL_6, ↓sL_7, ↓sL_8, ↓sL_9, ↓sL_10, ↓rrf_si, ↓rrf_sg, ↓shO_si, ↓shO_sg, ↓shO_sr, ↓shA_si, ↓shA_sg, ↓shA_sr, ↓pAs_0, ↓pAs_i, ↓pAs_r, stk_n, stk_i, stk_l, stk_r, List.nil_append, List.cons_append, true_and, and_true, true_or, or_true, Nat.zero_add, dp_s, Nat.reduceAdd, le8_0, le8_1, le8_2, le8_3, le8_4, le8_5, le8_6, le8_7, le8_8, Classical.not_not, aT40, aT41, aT42, aT44, aT54, aT58, aT59, rT54, rT58, rT59, reduceIte, Nat.reduceEqDiff, qn_42, qn_44, true_implies, not_true_eq_false, not_false_eq_true, false_implies, lt_T, le_T, T_0, T_200, nT (show n < 2147483648 by omega)]
    refine ⟨fun c => by omega, fun _ => ⟨fun _ => ?_, fun c => by omega⟩⟩
    refine lop n 0 M s (by omega) h hi Of.rf_ (fun M' h' f' => ?_)
    rw [Nat.zero_add]
    exact hk M' h' f'
theorem c100 {d c : Nat} {M : Mm} {k : mQ} {b : Nat} {s : Ms} (h : CM M b s) (hi : IvS c s) (hc : c ≤ 512) (hk : ∀ M', CM M' b (mCra s).2 → Fr b M M' → k (some (.inl (mCra s).1)) M') : XC (d + 3) 100 [.inr (some b)] M k := by
  have h0 := h
  obtain ⟨D, pm, ws, im, G, a, h, r⟩ := h
  have f18 : M.it b 18 = bI s.off := h.f18
  have hq : QuC M (b + 7) pm s.md ws := h.2.2.1.1
  have hlen := r.2.2.2.1.1
  have hm : s.mu ≤ c := hi.2.2.1.2.2.2.1
  unfold mCra at hk
  refine xc ?_
  show X (d + 2) 100 0 [some (.inr (some b)), none, none, none] [] M k
  cases ho : s.off with
  | true =>
    rw [ho, bI_t] at f18
    rw [if_pos ho] at hk
    refine vc_X 20 _ _ _ _ _ _ _ ?_
    simp only [↓v100_0, ↓v100_1, ↓v100_4, ↓v100_7, ↓v100_8, ↓v100_9, ↓v100_10, ↓v100_13, ↓v100_16, ↓v100_17, ↓v100_18, ↓v100_21, ↓v100_24, ↓v100_25, ↓v100_28, ↓v100_31, ↓v100_32, ↓v100_35, ↓v100_38, ↓v100_41, ↓v100_42, ↓v100_45, ↓v100_46, ↓v100_47, ↓v100_48, ↓v100_49, ↓v100_50, ↓v100_51, ↓v100_52, ↓v100_55, ↓v100_58, ↓v100_59, ↓v100_60, ↓v100_63, ↓v100_64, ↓v100_67, ↓v100_68, ↓v100_71, ↓v100_72, ↓v100_73, ↓v100_74, ↓v100_77, ↓v100_80, ↓v100_81, ↓v100_82, ↓v100_85, ↓v100_86, ↓qI_c, ↓qL_c, ↓qR_c, ↓pA_o, ↓qC_i, ↓qC_r, ↓oA_s, ↓gI_0, ↓gI_1, ↓gI_2, ↓gI_3, ↓gI_4, ↓gI_5, ↓gI_6, ↓gI_7, ↓gI_8, ↓gI_9, ↓gI_10, ↓gR_0, ↓gR_1, ↓gR_2, ↓gR_3, ↓gR_4, ↓gR_5, ↓gR_6, ↓gR_7, ↓gR_8, ↓gR_9, ↓gR_10, ↓sL_0, ↓sL_1, ↓sL_2, ↓sL_3, ↓sL_4, ↓sL_5, ↓sL_6, ↓sL_7, ↓sL_8, ↓sL_9, ↓sL_10, ↓rrf_si, ↓rrf_sg, ↓shO_si, ↓shO_sg, ↓shO_sr, ↓shA_si, ↓shA_sg, ↓shA_sr, ↓pAs_0, ↓pAs_i, ↓pAs_r, stk_n, stk_i, stk_l, stk_r, List.nil_append, List.cons_append, true_and, and_true, true_or, or_true, Nat.zero_add, dp_s, Nat.reduceAdd, le8_0, le8_1, le8_2, le8_3, le8_4, le8_5, le8_6, le8_7, le8_8, Classical.not_not, aT40, aT41, aT42, aT44, aT54, aT58, aT59, rT54, rT58, rT59, reduceIte, Nat.reduceEqDiff, qn_42, qn_44, true_implies, not_true_eq_false, not_false_eq_true, false_implies, ↓shO_of h.1.1.1, f18, i10]
    exact hk M h0 Fr.rf_
  | false =>
    rw [ho, bI_f] at f18
    rw [if_neg (by rw [ho]; decide)] at hk
    refine vc_X 20 _ _ _ _ _ _ _ ?_
    simp only [↓v100_0, ↓v100_1, ↓v100_4, ↓v100_7, ↓v100_8, ↓v100_9, ↓v100_10, ↓v100_13, ↓v100_16, ↓v100_17, ↓v100_18, ↓v100_21, ↓v100_24, ↓v100_25, ↓v100_28, ↓v100_31, ↓v100_32, ↓v100_35, ↓v100_38, ↓v100_41, ↓v100_42, ↓v100_45, ↓v100_46, ↓v100_47, ↓v100_48, ↓v100_49, ↓v100_50, ↓v100_51, ↓v100_52, ↓v100_55, ↓v100_58, ↓v100_59, ↓v100_60, ↓v100_63, ↓v100_64, ↓v100_67, ↓v100_68, ↓v100_71, ↓v100_72, ↓v100_73, ↓v100_74, ↓v100_77, ↓v100_80, ↓v100_81, ↓v100_82, ↓v100_85, ↓v100_86, ↓qI_c, ↓qL_c, ↓qR_c, ↓pA_o, ↓qC_i, ↓qC_r, ↓oA_s, ↓gI_0, ↓gI_1, ↓gI_2, ↓gI_3, ↓gI_4, ↓gI_5, ↓gI_6, ↓gI_7, ↓gI_8, ↓gI_9, ↓gI_10, ↓gR_0, ↓gR_1, ↓gR_2, ↓gR_3, ↓gR_4, ↓gR_5, ↓gR_6, ↓gR_7, ↓gR_8, ↓gR_9, ↓gR_10, ↓sL_0, ↓sL_1, ↓sL_2, ↓sL_3, ↓sL_4, ↓sL_5, ↓sL_6, ↓sL_7, ↓sL_8, ↓sL_9, ↓sL_10, ↓rrf_si, ↓rrf_sg, ↓shO_si, ↓shO_sg, ↓shO_sr, ↓shA_si, ↓shA_sg, ↓shA_sr, ↓pAs_0, ↓pAs_i, ↓pAs_r, stk_n, stk_i, stk_l, stk_r, List.nil_append, List.cons_append, true_and, and_true, true_or, or_true, Nat.zero_add, dp_s, Nat.reduceAdd, le8_0, le8_1, le8_2, le8_3, le8_4, le8_5, le8_6, le8_7, le8_8, Classical.not_not, aT40, aT41, aT42, aT44, aT54, aT58, aT59, rT54, rT58, rT59, reduceIte, Nat.reduceEqDiff, qn_42, qn_44, true_implies, not_true_eq_false, not_false_eq_true, false_implies, ↓shO_of h.1.1.1, f18, i00, ↓rrf_of h.1.1.2.2.1, ↓shO_of hq.1.1, hq.2.1]
    refine k101 hq (fun M1 q1 o1 => ⟨rfl, ?_⟩)
    have h1 := h.upQ q1 (o1.mono (fun y hy => by rw [hy]; unfold PQ; omega)) (fun j y a1 hj ha => by simp at hj)
    have hC1 := h1.2.2.2.1
    refine vc_X 20 _ _ _ _ _ _ _ ?_
    simp only [↓v100_0, ↓v100_1, ↓v100_4, ↓v100_7, ↓v100_8, ↓v100_9, ↓v100_10, ↓v100_13, ↓v100_16, ↓v100_17, ↓v100_18, ↓v100_21, ↓v100_24, ↓v100_25, ↓v100_28, ↓v100_31, ↓v100_32, ↓v100_35, ↓v100_38, ↓v100_41, ↓v100_42, ↓v100_45, ↓v100_46, ↓v100_47, ↓v100_48, ↓v100_49, ↓v100_50, ↓v100_51, ↓v100_52, ↓v100_55, ↓v100_58, ↓v100_59, ↓v100_60, ↓v100_63, ↓v100_64, ↓v100_67, ↓v100_68, ↓v100_71, ↓v100_72, ↓v100_73, ↓v100_74, ↓v100_77, ↓v100_80, ↓v100_81, ↓v100_82, ↓v100_85, ↓v100_86, ↓qI_c, ↓qL_c, ↓qR_c, ↓pA_o, ↓qC_i, ↓qC_r, ↓oA_s, ↓gI_0, ↓gI_1, ↓gI_2, ↓gI_3, ↓gI_4, ↓gI_5, ↓gI_6, ↓gI_7, ↓gI_8, ↓gI_9, ↓gI_10, ↓gR_0, ↓gR_1, ↓gR_2, ↓gR_3, ↓gR_4, ↓gR_5, ↓gR_6, ↓gR_7, ↓gR_8, ↓gR_9, ↓gR_10, ↓sL_0, ↓sL_1, ↓sL_2, ↓sL_3, ↓sL_4, ↓sL_5, ↓sL_6, ↓sL_7, ↓sL_8, ↓sL_9, ↓sL_10, ↓rrf_si, ↓rrf_sg, ↓shO_si, ↓shO_sg, ↓shO_sr, ↓shA_si, ↓shA_sg, ↓shA_sr, ↓pAs_0, ↓pAs_i, ↓pAs_r, stk_n, stk_i, stk_l, stk_r, List.nil_append, List.cons_append, true_and, and_true, true_or, or_true, Nat.zero_add, dp_s, Nat.reduceAdd, le8_0, le8_1, le8_2, le8_3, le8_4, le8_5, le8_6, le8_7, le8_8, Classical.not_not, aT40, aT41, aT42, aT44, aT54, aT58, aT59, rT54, rT58, rT59, reduceIte, Nat.reduceEqDiff, qn_42, qn_44, true_implies, not_true_eq_false, not_false_eq_true, false_implies, ↓shO_of h1.1.1.1, ↓rrf_of h1.1.1.2.2.2.1, ↓shO_of hC1.1.1.1]
    refine k102 hC1.1 (fun M2 c2 o2 => ⟨rfl, ?_⟩)
    have h2 := h1.upC c2 hC1.2 (o2.of (fun y hy => Or.inl (by simpa using hy)))
    have hDs := h2.2.1.1.1.1
    refine vc_X 20 _ _ _ _ _ _ _ ?_
    simp only [↓v100_0, ↓v100_1, ↓v100_4, ↓v100_7, ↓v100_8, ↓v100_9, ↓v100_10, ↓v100_13, ↓v100_16, ↓v100_17, ↓v100_18, ↓v100_21, ↓v100_24, ↓v100_25, ↓v100_28, ↓v100_31, ↓v100_32, ↓v100_35, ↓v100_38, ↓v100_41, ↓v100_42, ↓v100_45, ↓v100_46, ↓v100_47, ↓v100_48, ↓v100_49, ↓v100_50, ↓v100_51, ↓v100_52, ↓v100_55, ↓v100_58, ↓v100_59, ↓v100_60, ↓v100_63, ↓v100_64, ↓v100_67, ↓v100_68, ↓v100_71, ↓v100_72, ↓v100_73, ↓v100_74, ↓v100_77, ↓v100_80, ↓v100_81, ↓v100_82, ↓v100_85, ↓v100_86, ↓qI_c, ↓qL_c, ↓qR_c, ↓pA_o, ↓qC_i, ↓qC_r, ↓oA_s, ↓gI_0, ↓gI_1, ↓gI_2, ↓gI_3, ↓gI_4, ↓gI_5, ↓gI_6, ↓gI_7, ↓gI_8, ↓gI_9, ↓gI_10, ↓gR_0, ↓gR_1, ↓gR_2, ↓gR_3, ↓gR_4, ↓gR_5, ↓gR_6, ↓gR_7, ↓gR_8, ↓gR_9, ↓gR_10, ↓sL_0, ↓sL_1, ↓sL_2, ↓sL_3, ↓sL_4, ↓sL_5, ↓sL_6, ↓sL_7, ↓sL_8, ↓sL_9, ↓sL_10, ↓rrf_si, ↓rrf_sg, ↓shO_si, ↓shO_sg, ↓shO_sr, ↓shA_si, ↓shA_sg, ↓shA_sr, ↓pAs_0, ↓pAs_i, ↓pAs_r, stk_n, stk_i, stk_l, stk_r, List.nil_append, List.cons_append, true_and, and_true, true_or, or_true, Nat.zero_add, dp_s, Nat.reduceAdd, le8_0, le8_1, le8_2, le8_3, le8_4, le8_5, le8_6, le8_7, le8_8, Classical.not_not, aT40, aT41, aT42, aT44, aT54, aT58, aT59, rT54, rT58, rT59, reduceIte, Nat.reduceEqDiff, qn_42, qn_44, true_implies, not_true_eq_false, not_false_eq_true, false_implies, ↓shO_of h2.1.1.1, ↓rrf_of h2.1.1.2.1, ↓shO_of hDs]
    refine c16 h2 r hi (fun a1 rc e1 => ⟨_, rfl, ?_⟩)
    obtain ⟨ra, rb, rd⟩ := rc
    rw [e1] at ra
    have hu := ra.2.2.2.2.2.2.2.2.1
    have emx : imax (nI s.R.2.1) 0 = nI s.R.2.1 := by
      unfold imax
      rw [if_neg (by rw [lt_T, T_0, nT (by omega)]; omega)]
    refine vc_X 20 _ _ _ _ _ _ _ ?_
    simp only [↓v100_0, ↓v100_1, ↓v100_4, ↓v100_7, ↓v100_8, ↓v100_9, ↓v100_10, ↓v100_13, ↓v100_16, ↓v100_17, ↓v100_18, ↓v100_21, ↓v100_24, ↓v100_25, ↓v100_28, ↓v100_31, ↓v100_32, ↓v100_35, ↓v100_38, ↓v100_41, ↓v100_42, ↓v100_45, ↓v100_46, ↓v100_47, ↓v100_48, ↓v100_49, ↓v100_50, ↓v100_51, ↓v100_52, ↓v100_55, ↓v100_58, ↓v100_59, ↓v100_60, ↓v100_63, ↓v100_64, ↓v100_67, ↓v100_68, ↓v100_71, ↓v100_72, ↓v100_73, ↓v100_74, ↓v100_77, ↓v100_80, ↓v100_81, ↓v100_82, ↓v100_85, ↓v100_86, ↓qI_c, ↓qL_c, ↓qR_c, ↓pA_o, ↓qC_i, ↓qC_r, ↓oA_s, ↓gI_0, ↓gI_1, ↓gI_2, ↓gI_3, ↓gI_4, ↓gI_5, ↓gI_6, ↓gI_7, ↓gI_8, ↓gI_9, ↓gI_10, ↓gR_0, ↓gR_1, ↓gR_2, ↓gR_3, ↓gR_4, ↓gR_5, ↓gR_6, ↓gR_7, ↓gR_8, ↓gR_9, ↓gR_10, ↓sL_0, ↓sL_1, ↓sL_2, ↓sL_3, ↓sL_4, ↓sL_5, ↓sL_6, ↓sL_7, ↓sL_8, ↓sL_9, ↓sL_10, ↓rrf_si, ↓rrf_sg, ↓shO_si, ↓shO_sg, ↓shO_sr, ↓shA_si, ↓shA_sg, ↓shA_sr, ↓pAs_0, ↓pAs_i, ↓pAs_r, stk_n, stk_i, stk_l, stk_r, List.nil_append, List.cons_append, true_and, and_true, true_or, or_true, Nat.zero_add, dp_s, Nat.reduceAdd, le8_0, le8_1, le8_2, le8_3, le8_4, le8_5, le8_6, le8_7, le8_8, Classical.not_not, aT40, aT41, aT42, aT44, aT54, aT58, aT59, rT54, rT58, rT59, reduceIte, Nat.reduceEqDiff, qn_42, qn_44, true_implies, not_true_eq_false, not_false_eq_true, false_implies, ↓shO_of ra.1.1, ra.2.2.1, emx, nI_1]
    have f17 : ∀ (M' : Mm) (E' : (Nat → Option Nat) × (Nat → Bool)), CP M' b D (pm, s.md, []) ([], s.C.2) s.L (im, s.I) s.T E' (G, a, s.F.2) → M'.it b 17 = nI s.mu := fun M' E' h' => h'.f17
    have oA2 : Of (fun y => b ≤ y ∧ y < b + 279) M M2 := (o1.mono (P := fun y => b ≤ y ∧ y < b + 279) (fun y hy => by rw [hy]; omega)).trans (o2.of (P := fun y => b ≤ y ∧ y < b + 279) (fun y hy => by simp at hy; omega)) (fun _ h => h)
    have lop : ∀ (m i : Nat) (M3 : Mm), i + m = max (s.R.2.1 + 1) (s.mu + 1) → s.R.2.1 + 1 ≤ i → CP M3 b D (pm, s.md, []) ([], s.C.2) s.L (im, s.I) s.T (s.em, fun h => s.lo h || (decide (s.R.2.1 < h) && decide (h < i))) (G, a, s.F.2) → Of (fun y => b ≤ y ∧ y < b + 279) M M3 → X (d + 2) 100 50 [some (.inr (some b)), some (.inl (nI ws.length)), some (.inl (nI s.R.2.1)), some (.inl (nI i))] [] M3 k := by
      intro m
      induction m with
      | zero =>
        intro i M3 him hle h3 o3
        have g17 := f17 M3 _ h3
        refine vc_X 20 _ _ _ _ _ _ _ ?_
        simp only [↓v100_0, ↓v100_1, ↓v100_4, ↓v100_7, ↓v100_8, ↓v100_9, ↓v100_10, ↓v100_13, ↓v100_16, ↓v100_17, ↓v100_18, ↓v100_21, ↓v100_24, ↓v100_25, ↓v100_28, ↓v100_31, ↓v100_32, ↓v100_35, ↓v100_38, ↓v100_41, ↓v100_42, ↓v100_45, ↓v100_46, ↓v100_47, ↓v100_48, ↓v100_49, ↓v100_50, ↓v100_51, ↓v100_52, ↓v100_55, ↓v100_58, ↓v100_59, ↓v100_60, ↓v100_63, ↓v100_64, ↓v100_67, ↓v100_68, ↓v100_71, ↓v100_72, ↓v100_73, ↓v100_74, ↓v100_77, ↓v100_80, ↓v100_81, ↓v100_82, ↓v100_85, ↓v100_86, ↓qI_c, ↓qL_c, ↓qR_c, ↓pA_o, ↓qC_i, ↓qC_r, ↓oA_s, ↓gI_0, ↓gI_1, ↓gI_2, ↓gI_3, ↓gI_4, ↓gI_5, ↓gI_6, ↓gI_7, ↓gI_8, ↓gI_9, ↓gI_10, ↓gR_0, ↓gR_1, ↓gR_2, ↓gR_3, ↓gR_4, ↓gR_5, ↓gR_6, ↓gR_7, ↓gR_8, ↓gR_9, ↓gR_10, ↓sL_0, ↓sL_1, ↓sL_2, ↓sL_3, ↓sL_4, ↓sL_5, ↓sL_6, ↓sL_7, ↓sL_8, ↓sL_9, ↓sL_10, ↓rrf_si, ↓rrf_sg, ↓shO_si, ↓shO_sg, ↓shO_sr, ↓shA_si, ↓shA_sg, ↓shA_sr, ↓pAs_0, ↓pAs_i, ↓pAs_r, stk_n, stk_i, stk_l, stk_r, List.nil_append, List.cons_append, true_and, and_true, true_or, or_true, Nat.zero_add, dp_s, Nat.reduceAdd, le8_0, le8_1, le8_2, le8_3, le8_4, le8_5, le8_6, le8_7, le8_8, Classical.not_not, aT40, aT41, aT42, aT44, aT54, aT58, aT59, rT54, rT58, rT59, reduceIte, Nat.reduceEqDiff, qn_42, qn_44, true_implies, not_true_eq_false, not_false_eq_true, false_implies, ↓shO_of h3.1.1.1, g17, lt_T, nT (show i < 2147483648 by omega), nT (show s.mu < 2147483648 by omega)]
        refine ⟨fun _ => ?_, fun c => by omega⟩
        have eE : (fun h => s.lo h || (decide (s.R.2.1 < h) && decide (h < i))) = fun h => s.lo h || (decide (s.R.2.1 < h) && decide (h ≤ s.mu)) := by
          funext j
          by_cases c1 : s.R.2.1 < j
          · rw [show decide (j < i) = decide (j ≤ s.mu) from decide_eq_decide.mpr (by omega)]
          · rw [decide_eq_false c1, Bool.false_and, Bool.false_and]
        rw [eE] at h3
        rw [hlen]
        have o4 : Of (· = b) M3 (M3.si b 18 1) := (Of.rf_ : Of (· = b) M3 M3).i rfl
        obtain ⟨p1, p2, p3, p4, p5, p6, p7, p8⟩ := h3.2.2.2.2.2.2.2.2
        refine hk _ ⟨D, pm, [], im, G, a, h3.upF (F' := (G, a, s.lw, s.st, s.mu, true)) ⟨p1, ?_, ?_, ?_, ?_, ?_, p7, p8⟩ rfl o4 (fun j _ => rfl), ⟨r.1, r.2.1, r.2.2.1, ⟨rfl, fun k x w hx => by simp at hx⟩, r.2.2.2.2⟩⟩ ?_
        · exact p2.ag (P := fun y => ¬ y = b) (o4.ag (fun _ h => h)) (fun x hx => by omega) (Nat.le_refl _)
        · rw [si_it, if_neg (by simp)]; exact p3
        · rw [si_it, if_neg (by simp)]; exact p4
        · rw [si_it, if_neg (by simp)]; exact p5
        · rw [si_it, if_pos ⟨rfl, rfl⟩]; rfl
        · exact Of.fr (o3.i (show b ≤ b ∧ b < b + 279 by omega)) (fun _ h => h)
      | succ m ih =>
        intro i M3 him hle h3 o3
        have g17 := f17 M3 _ h3
        refine vc_X 30 _ _ _ _ _ _ _ ?_
        simp only [↓v100_0, ↓v100_1, ↓v100_4, ↓v100_7, ↓v100_8, ↓v100_9, ↓v100_10, ↓v100_13, ↓v100_16, ↓v100_17, ↓v100_18, ↓v100_21, ↓v100_24, ↓v100_25, ↓v100_28, ↓v100_31, ↓v100_32, ↓v100_35, ↓v100_38, ↓v100_41, ↓v100_42, ↓v100_45, ↓v100_46, ↓v100_47, ↓v100_48, ↓v100_49, ↓v100_50, ↓v100_51, ↓v100_52, ↓v100_55, ↓v100_58, ↓v100_59, ↓v100_60, ↓v100_63, ↓v100_64, ↓v100_67, ↓v100_68, ↓v100_71, ↓v100_72, ↓v100_73, ↓v100_74, ↓v100_77, ↓v100_80, ↓v100_81, ↓v100_82, ↓v100_85, ↓v100_86, ↓qI_c, ↓qL_c, ↓qR_c, ↓pA_o, ↓qC_i, ↓qC_r, ↓oA_s, ↓gI_0, ↓gI_1, ↓gI_2, ↓gI_3, ↓gI_4, ↓gI_5, ↓gI_6, ↓gI_7, ↓gI_8, ↓gI_9, ↓gI_10, ↓gR_0, ↓gR_1, ↓gR_2, ↓gR_3, ↓gR_4, ↓gR_5, ↓gR_6, ↓gR_7, ↓gR_8, ↓gR_9, ↓gR_10, ↓sL_0, ↓sL_1, ↓sL_2, ↓sL_3, ↓sL_4, ↓sL_5, ↓sL_6, ↓sL_7, ↓sL_8, ↓sL_9, ↓sL_10, ↓rrf_si, ↓rrf_sg, ↓shO_si, ↓shO_sg, ↓shO_sr, ↓shA_si, ↓shA_sg, ↓shA_sr, ↓pAs_0, ↓pAs_i, ↓pAs_r, stk_n, stk_i, stk_l, stk_r, List.nil_append, List.cons_append, true_and, and_true, true_or, or_true, Nat.zero_add, dp_s, Nat.reduceAdd, le8_0, le8_1, le8_2, le8_3, le8_4, le8_5, le8_6, le8_7, le8_8, Classical.not_not, aT40, aT41, aT42, aT44, aT54, aT58, aT59, rT54, rT58, rT59, reduceIte, Nat.reduceEqDiff, qn_42, qn_44, true_implies, not_true_eq_false, not_false_eq_true, false_implies, ↓shO_of h3.1.1.1, g17, lt_T, le_T, nT (show i < 2147483648 by omega), nT (show s.mu < 2147483648 by omega), ↓rrf_of h3.1.2.1.2.2.2.2.2.2.2, ↓shA_of h3.1.2.2.1.2.2.2, nT (show 513 < 2147483648 by omega), nC (show i < 2147483648 by omega), nb1, nI_1]
        refine ⟨fun c => by omega, fun _ => ⟨fun c => by omega, fun _ => ⟨inB_n (by omega) (by omega), ?_⟩⟩⟩
        have o4 : On [b + 277, b + 278] M3 (M3.si (b + 278) i 1) := On.rf_.put (by simp)
        have hE3 := h3.2.2.2.2.2.2.2.1
        refine ih (i + 1) _ (by omega) (by omega) (h3.upE (E' := (s.em, fun h => s.lo h || (decide (s.R.2.1 < h) && decide (h < i + 1)))) ⟨fun e he => ?_, fun j hj => ?_⟩ o4) (o3.trans (o4.of (P := fun y => b ≤ y ∧ y < b + 279) (fun y hy => by simp at hy; omega)) (fun _ h => h))
        · rw [si_it, if_neg (by simp)]
          exact hE3.1 e he
        · rw [si_it]
          by_cases cj : j = i
          · rw [if_pos ⟨rfl, cj⟩]
            show (1 : Int32) = bI (s.lo j || (decide (s.R.2.1 < j) && decide (j < i + 1)))
            rw [decide_eq_true (show s.R.2.1 < j by omega), decide_eq_true (show j < i + 1 by omega), Bool.and_true, Bool.or_true]
            rfl
          · rw [if_neg (fun q => cj q.2), hE3.2 j hj]
            show bI (s.lo j || (decide (s.R.2.1 < j) && decide (j < i))) = bI (s.lo j || (decide (s.R.2.1 < j) && decide (j < i + 1)))
            rw [show decide (j < i) = decide (j < i + 1) from decide_eq_decide.mpr (by omega)]
    refine lop (max (s.R.2.1 + 1) (s.mu + 1) - (s.R.2.1 + 1)) (s.R.2.1 + 1) M2 (by omega) (Nat.le_refl _) ?_ oA2
    have eE : (fun h => s.lo h || (decide (s.R.2.1 < h) && decide (h < s.R.2.1 + 1))) = s.lo := by
      funext j
      by_cases c1 : s.R.2.1 < j
      · rw [decide_eq_false (show ¬ j < s.R.2.1 + 1 by omega), Bool.and_false, Bool.or_false]
      · rw [decide_eq_false c1, Bool.false_and, Bool.or_false]
    rw [eE]
    exact h2
