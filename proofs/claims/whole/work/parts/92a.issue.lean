/-! the reference: issue, settle, crash -/
def isA (s : Ms) (o : Option Nat) : Int32 × Ms := match o with
  | none => (-1, s)
  | some i => (nuM s i, landM i s)
theorem mIss_A (x : Int32) (s : Ms) : mIss x s = isA s (rpF (rdM s.ws) x 0 s.ws.length) := by
  unfold mIss isA
  cases rpF (rdM s.ws) x 0 s.ws.length <;> rfl
theorem rpF_neg {p : Nat → Bool} {x : Int32} (hx : x.toInt < 0) : ∀ m i, i + m ≤ 1000 → rpF p x i m = none
  | 0, i, _ => rfl
  | m + 1, i, h => by
    have e2 : rpF p x i (m + 1) = if (p i && decide (nI (cnt p i) = x)) then some i else rpF p x (i + 1) m := rfl
    have hc := cnt_le p i
    have hd : decide (nI (cnt p i) = x) = false := decide_eq_false (fun q => by rw [← q, nT (by omega)] at hx; omega)
    rw [e2, hd, Bool.and_false]
    exact rpF_neg hx m (i + 1) (by omega)
theorem d150 {d c : Nat} {M : Mm} {k : mQ} {r : Nat} {s : Ms} {x : Int32} (h : RP M r s) (hi : IvS c s) (hk : ∀ M', RP M' r (mIss x s).2 → Rr r M M' → k (some (.inl (mIss x s).1)) M') : XC (d + 3) 150 [.inr (some r), .inl x] M k := by
  obtain ⟨h1, o1⟩ := h.th
  have or1 : Rr r M (M.si r 0 0) := o1.rr (fun _ q => q.elim)
  generalize hM1 : M.si r 0 0 = M1 at h1 o1 or1
  have hs := h.1
  have hs1 := h1.1
  have hwl : s.ws.length ≤ 120 := hi.2.2.1.1
  have f14 : M1.it r 14 = nI s.ws.length := h1.2.1.2.1
  rw [mIss_A] at hk
  refine xc ?_
  show X (d + 2) 150 0 [some (.inr (some r)), some (.inl x), none, none] [] M k
  refine vc_X 20 _ _ _ _ _ _ _ ?_
  simp only [↓v150_0, ↓v150_1, ↓v150_2, ↓v150_5, ↓v150_6, ↓v150_7, ↓v150_8, ↓v150_9, ↓v150_10, ↓v150_11, ↓v150_14, ↓v150_17, ↓v150_18, ↓v150_21, ↓v150_22, ↓v150_23, ↓v150_26, ↓v150_29, ↓v150_32, ↓v150_33, ↓v150_36, ↓v150_37, ↓v150_38, ↓v150_41, ↓v150_42, ↓v150_45, ↓v150_48, ↓v150_51, ↓v150_52, ↓qI_c, ↓qL_c, ↓qR_c, ↓pA_o, ↓qC_i, ↓qC_r, ↓oA_s, ↓gI_0, ↓gI_1, ↓gI_2, ↓gI_3, ↓gI_4, ↓gI_5, ↓gI_6, ↓gI_7, ↓gI_8, ↓gI_9, ↓gI_10, ↓gR_0, ↓gR_1, ↓gR_2, ↓gR_3, ↓gR_4, ↓gR_5, ↓gR_6, ↓gR_7, ↓gR_8, ↓gR_9, ↓gR_10, ↓sL_0, ↓sL_1, ↓sL_2, ↓sL_3, ↓sL_4, ↓sL_5, ↓sL_6, ↓sL_7, ↓sL_8, ↓sL_9, ↓sL_10, ↓rrf_si, ↓rrf_sg, ↓shO_si, ↓shO_sg, ↓shO_sr, ↓shA_si, ↓shA_sg, ↓shA_sr, ↓pAs_0, ↓pAs_i, ↓pAs_r, stk_n, stk_i, stk_l, stk_r, List.nil_append, List.cons_append, true_and, and_true, true_or, or_true, Nat.zero_add, dp_s, Nat.reduceAdd, le8_0, le8_1, le8_2, le8_3, le8_4, le8_5, le8_6, le8_7, le8_8, Classical.not_not, aT40, aT41, aT42, aT44, aT54, aT58, aT59, rT54, rT58, rT59, reduceIte, Nat.reduceEqDiff, qn_42, qn_44, true_implies, not_true_eq_false, not_false_eq_true, false_implies, hM1, ↓shO_of hs.1.1]
  by_cases hx : x.toInt < 0
  · rw [rpF_neg hx _ _ (by omega)] at hk
    have hk := hk M1 h1 or1
    refine vc_X 20 _ _ _ _ _ _ _ ?_
    simp only [↓v150_0, ↓v150_1, ↓v150_2, ↓v150_5, ↓v150_6, ↓v150_7, ↓v150_8, ↓v150_9, ↓v150_10, ↓v150_11, ↓v150_14, ↓v150_17, ↓v150_18, ↓v150_21, ↓v150_22, ↓v150_23, ↓v150_26, ↓v150_29, ↓v150_32, ↓v150_33, ↓v150_36, ↓v150_37, ↓v150_38, ↓v150_41, ↓v150_42, ↓v150_45, ↓v150_48, ↓v150_51, ↓v150_52, ↓qI_c, ↓qL_c, ↓qR_c, ↓pA_o, ↓qC_i, ↓qC_r, ↓oA_s, ↓gI_0, ↓gI_1, ↓gI_2, ↓gI_3, ↓gI_4, ↓gI_5, ↓gI_6, ↓gI_7, ↓gI_8, ↓gI_9, ↓gI_10, ↓gR_0, ↓gR_1, ↓gR_2, ↓gR_3, ↓gR_4, ↓gR_5, ↓gR_6, ↓gR_7, ↓gR_8, ↓gR_9, ↓gR_10, ↓sL_0, ↓sL_1, ↓sL_2, ↓sL_3, ↓sL_4, ↓sL_5, ↓sL_6, ↓sL_7, ↓sL_8, ↓sL_9, ↓sL_10, ↓rrf_si, ↓rrf_sg, ↓shO_si, ↓shO_sg, ↓shO_sr, ↓shA_si, ↓shA_sg, ↓shA_sr, ↓pAs_0, ↓pAs_i, ↓pAs_r, stk_n, stk_i, stk_l, stk_r, List.nil_append, List.cons_append, true_and, and_true, true_or, or_true, Nat.zero_add, dp_s, Nat.reduceAdd, le8_0, le8_1, le8_2, le8_3, le8_4, le8_5, le8_6, le8_7, le8_8, Classical.not_not, aT40, aT41, aT42, aT44, aT54, aT58, aT59, rT54, rT58, rT59, reduceIte, Nat.reduceEqDiff, qn_42, qn_44, true_implies, not_true_eq_false, not_false_eq_true, false_implies, ↓shO_of hs1.1.1, f14, le_T, lt_T, T_0, nT (show s.ws.length < 2147483648 by omega)]
    exact ⟨fun _ => hk, fun _ => ⟨fun _ => hk, fun c => absurd hx c⟩⟩
  · obtain ⟨n, hn⟩ : ∃ n : Nat, x.toInt = n := ⟨x.toInt.toNat, by omega⟩
    have hxn : x = nI n := (eq_T x (nI n)).mpr (by rw [nT (by have := x.toInt_lt; omega)]; exact hn)
    have hn31 : n < 2147483648 := by have := x.toInt_lt; omega
    subst hxn
    have lop : ∀ m i, i + m = s.ws.length → cnt (rdM s.ws) i ≤ n → (∀ M', RP M' r (isA s (rpF (rdM s.ws) (nI n) i m)).2 → Rr r M M' → k (some (.inl (isA s (rpF (rdM s.ws) (nI n) i m)).1)) M') → X (d + 2) 150 9 [some (.inr (some r)), some (.inl (nI n)), some (.inl (nI (n - cnt (rdM s.ws) i))), some (.inl (nI i))] [] M1 k := by
      intro m
      induction m with
      | zero =>
        intro i hm hc hk
        have e : i = s.ws.length := by omega
        subst e
        refine vc_X 20 _ _ _ _ _ _ _ ?_
        simp only [↓v150_0, ↓v150_1, ↓v150_2, ↓v150_5, ↓v150_6, ↓v150_7, ↓v150_8, ↓v150_9, ↓v150_10, ↓v150_11, ↓v150_14, ↓v150_17, ↓v150_18, ↓v150_21, ↓v150_22, ↓v150_23, ↓v150_26, ↓v150_29, ↓v150_32, ↓v150_33, ↓v150_36, ↓v150_37, ↓v150_38, ↓v150_41, ↓v150_42, ↓v150_45, ↓v150_48, ↓v150_51, ↓v150_52, ↓qI_c, ↓qL_c, ↓qR_c, ↓pA_o, ↓qC_i, ↓qC_r, ↓oA_s, ↓gI_0, ↓gI_1, ↓gI_2, ↓gI_3, ↓gI_4, ↓gI_5, ↓gI_6, ↓gI_7, ↓gI_8, ↓gI_9, ↓gI_10, ↓gR_0, ↓gR_1, ↓gR_2, ↓gR_3, ↓gR_4, ↓gR_5, ↓gR_6, ↓gR_7, ↓gR_8, ↓gR_9, ↓gR_10, ↓sL_0, ↓sL_1, ↓sL_2, ↓sL_3, ↓sL_4, ↓sL_5, ↓sL_6, ↓sL_7, ↓sL_8, ↓sL_9, ↓sL_10, ↓rrf_si, ↓rrf_sg, ↓shO_si, ↓shO_sg, ↓shO_sr, ↓shA_si, ↓shA_sg, ↓shA_sr, ↓pAs_0, ↓pAs_i, ↓pAs_r, stk_n, stk_i, stk_l, stk_r, List.nil_append, List.cons_append, true_and, and_true, true_or, or_true, Nat.zero_add, dp_s, Nat.reduceAdd, le8_0, le8_1, le8_2, le8_3, le8_4, le8_5, le8_6, le8_7, le8_8, Classical.not_not, aT40, aT41, aT42, aT44, aT54, aT58, aT59, rT54, rT58, rT59, reduceIte, Nat.reduceEqDiff, qn_42, qn_44, true_implies, not_true_eq_false, not_false_eq_true, false_implies, ↓shO_of hs1.1.1, f14, le_T, nT (show s.ws.length < 2147483648 by omega), Int.le_refl]
        exact hk M1 h1 or1
      | succ m ih =>
        intro i hm hc hk
        have ih1 := ih (i + 1) (by omega)
        have e1 : cnt (rdM s.ws) (i + 1) = cnt (rdM s.ws) i + (if rdM s.ws i then 1 else 0) := rfl
        have e2 : rpF (rdM s.ws) (nI n) i (m + 1) = if (rdM s.ws i && decide (nI (cnt (rdM s.ws) i) = nI n)) then some i else rpF (rdM s.ws) (nI n) (i + 1) m := rfl
        rw [e1] at ih1
        rw [e2] at hk
        have hcl := cnt_le (rdM s.ws) i
        have hx1 : s.ws[i]? = some s.ws[i] := List.getElem?_eq_getElem (by omega)
        have hlf : lfM s.ws s.ws[i] ≤ s.ws.length := List.length_filter_le _ _
        have hrd : rdM s.ws i = (lfM s.ws s.ws[i] == 0) := by unfold rdM; rw [hx1]
        refine vc_X 20 _ _ _ _ _ _ _ ?_
        simp only [↓v150_0, ↓v150_1, ↓v150_2, ↓v150_5, ↓v150_6, ↓v150_7, ↓v150_8, ↓v150_9, ↓v150_10, ↓v150_11, ↓v150_14, ↓v150_17, ↓v150_18, ↓v150_21, ↓v150_22, ↓v150_23, ↓v150_26, ↓v150_29, ↓v150_32, ↓v150_33, ↓v150_36, ↓v150_37, ↓v150_38, ↓v150_41, ↓v150_42, ↓v150_45, ↓v150_48, ↓v150_51, ↓v150_52, ↓qI_c, ↓qL_c, ↓qR_c, ↓pA_o, ↓qC_i, ↓qC_r, ↓oA_s, ↓gI_0, ↓gI_1, ↓gI_2, ↓gI_3, ↓gI_4, ↓gI_5, ↓gI_6, ↓gI_7, ↓gI_8, ↓gI_9, ↓gI_10, ↓gR_0, ↓gR_1, ↓gR_2, ↓gR_3, ↓gR_4, ↓gR_5, ↓gR_6, ↓gR_7, ↓gR_8, ↓gR_9, ↓gR_10, ↓sL_0, ↓sL_1, ↓sL_2, ↓sL_3, ↓sL_4, ↓sL_5, ↓sL_6, ↓sL_7, ↓sL_8, ↓sL_9, ↓sL_10, ↓rrf_si, ↓rrf_sg, ↓shO_si, ↓shO_sg, ↓shO_sr, ↓shA_si, ↓shA_sg, ↓shA_sr, ↓pAs_0, ↓pAs_i, ↓pAs_r, stk_n, stk_i, stk_l, stk_r, List.nil_append, List.cons_append, true_and, and_true, true_or, or_true, Nat.zero_add, dp_s, Nat.reduceAdd, le8_0, le8_1, le8_2, le8_3, le8_4, le8_5, le8_6, le8_7, le8_8, Classical.not_not, aT40, aT41, aT42, aT44, aT54, aT58, aT59, rT54, rT58, rT59, reduceIte, Nat.reduceEqDiff, qn_42, qn_44, true_implies, not_true_eq_false, not_false_eq_true, false_implies, ↓shO_of hs1.1.1, f14, le_T, lt_T, T_0, nT (show i < 2147483648 by omega), nT (show s.ws.length < 2147483648 by omega), nT hn31]
        refine ⟨fun c => by omega, fun _ => ⟨fun c => by omega, fun _ => ?_⟩⟩
        refine e151 (d := d) hs1 h1.2.2.2.1.2.2.2 f14 (by omega) hi.nb hx1 ⟨_, rfl, ?_⟩
        have e4 : (nI (n - cnt (rdM s.ws) i) = 0) ↔ n - cnt (rdM s.ws) i = 0 := by rw [n_0]; exact nI_eq (by omega) (by omega)
        refine vc_X 20 _ _ _ _ _ _ _ ?_
        simp only [↓v150_0, ↓v150_1, ↓v150_2, ↓v150_5, ↓v150_6, ↓v150_7, ↓v150_8, ↓v150_9, ↓v150_10, ↓v150_11, ↓v150_14, ↓v150_17, ↓v150_18, ↓v150_21, ↓v150_22, ↓v150_23, ↓v150_26, ↓v150_29, ↓v150_32, ↓v150_33, ↓v150_36, ↓v150_37, ↓v150_38, ↓v150_41, ↓v150_42, ↓v150_45, ↓v150_48, ↓v150_51, ↓v150_52, ↓qI_c, ↓qL_c, ↓qR_c, ↓pA_o, ↓qC_i, ↓qC_r, ↓oA_s, ↓gI_0, ↓gI_1, ↓gI_2, ↓gI_3, ↓gI_4, ↓gI_5, ↓gI_6, ↓gI_7, ↓gI_8, ↓gI_9, ↓gI_10, ↓gR_0, ↓gR_1, ↓gR_2, ↓gR_3, ↓gR_4, ↓gR_5, ↓gR_6, ↓gR_7, ↓gR_8, ↓gR_9, ↓gR_10, ↓sL_0, ↓sL_1, ↓sL_2, ↓sL_3, ↓sL_4, ↓sL_5, ↓sL_6, ↓sL_7, ↓sL_8, ↓sL_9, ↓sL_10, ↓rrf_si, ↓rrf_sg, ↓shO_si, ↓shO_sg, ↓shO_sr, ↓shA_si, ↓shA_sg, ↓shA_sr, ↓pAs_0, ↓pAs_i, ↓pAs_r, stk_n, stk_i, stk_l, stk_r, List.nil_append, List.cons_append, true_and, and_true, true_or, or_true, Nat.zero_add, dp_s, Nat.reduceAdd, le8_0, le8_1, le8_2, le8_3, le8_4, le8_5, le8_6, le8_7, le8_8, Classical.not_not, aT40, aT41, aT42, aT44, aT54, aT58, aT59, rT54, rT58, rT59, reduceIte, Nat.reduceEqDiff, qn_42, qn_44, true_implies, not_true_eq_false, not_false_eq_true, false_implies, le_T, T_0, nT (show lfM s.ws s.ws[i] < 2147483648 by omega), e4, nI_1, ↓shO_of hs1.1.1]
        refine ⟨fun c => ⟨fun c2 => ?_, fun c2 => ?_⟩, fun c => ?_⟩
        · have ht : rdM s.ws i = true := by rw [hrd, beq_iff_eq]; omega
          rw [ht] at ih1 hk
          have hd : decide (nI (cnt (rdM s.ws) i) = nI n) = false := decide_eq_false (fun q => by rw [nI_eq (by omega) (by omega)] at q; omega)
          rw [hd] at hk
          have e5 : nI (n - cnt (rdM s.ws) i) + -1 = nI (n - (cnt (rdM s.ws) i + 1)) := by
            rw [show n - cnt (rdM s.ws) i = n - (cnt (rdM s.ws) i + 1) + 1 by omega]
            exact pk_m1 _
          rw [e5]
          exact ih1 (by show cnt (rdM s.ws) i + 1 ≤ n; omega) hk
        · have ht : rdM s.ws i = true := by rw [hrd, beq_iff_eq]; omega
          have e6 : cnt (rdM s.ws) i = n := by omega
          have hd : decide (nI (cnt (rdM s.ws) i) = nI n) = true := decide_eq_true (by rw [e6])
          rw [ht, hd] at hk
          have hnu : nuM s i = nI s.ws[i].n := by unfold nuM; rw [hx1]
          refine e153 h1 hi.nb hwl hx1 (fun M2 h2 o2 => ⟨_, rfl, ?_⟩)
          refine vc_X 20 _ _ _ _ _ _ _ ?_
          simp only [↓v150_0, ↓v150_1, ↓v150_2, ↓v150_5, ↓v150_6, ↓v150_7, ↓v150_8, ↓v150_9, ↓v150_10, ↓v150_11, ↓v150_14, ↓v150_17, ↓v150_18, ↓v150_21, ↓v150_22, ↓v150_23, ↓v150_26, ↓v150_29, ↓v150_32, ↓v150_33, ↓v150_36, ↓v150_37, ↓v150_38, ↓v150_41, ↓v150_42, ↓v150_45, ↓v150_48, ↓v150_51, ↓v150_52, ↓qI_c, ↓qL_c, ↓qR_c, ↓pA_o, ↓qC_i, ↓qC_r, ↓oA_s, ↓gI_0, ↓gI_1, ↓gI_2, ↓gI_3, ↓gI_4, ↓gI_5, ↓gI_6, ↓gI_7, ↓gI_8, ↓gI_9, ↓gI_10, ↓gR_0, ↓gR_1, ↓gR_2, ↓gR_3, ↓gR_4, ↓gR_5, ↓gR_6, ↓gR_7, ↓gR_8, ↓gR_9, ↓gR_10, ↓sL_0, ↓sL_1, ↓sL_2, ↓sL_3, ↓sL_4, ↓sL_5, ↓sL_6, ↓sL_7, ↓sL_8, ↓sL_9, ↓sL_10, ↓rrf_si, ↓rrf_sg, ↓shO_si, ↓shO_sg, ↓shO_sr, ↓shA_si, ↓shA_sg, ↓shA_sr, ↓pAs_0, ↓pAs_i, ↓pAs_r, stk_n, stk_i, stk_l, stk_r, List.nil_append, List.cons_append, true_and, and_true, true_or, or_true, Nat.zero_add, dp_s, Nat.reduceAdd, le8_0, le8_1, le8_2, le8_3, le8_4, le8_5, le8_6, le8_7, le8_8, Classical.not_not, aT40, aT41, aT42, aT44, aT54, aT58, aT59, rT54, rT58, rT59, reduceIte, Nat.reduceEqDiff, qn_42, qn_44, true_implies, not_true_eq_false, not_false_eq_true, false_implies]
          have hk2 := hk M2 h2 (or1.trans o2 (fun _ q => q))
          have hk2 : k (some (.inl (nuM s i))) M2 := hk2
          rw [hnu] at hk2
          exact hk2
        · have hf : rdM s.ws i = false := by rw [hrd, beq_eq_false_iff_ne]; omega
          rw [hf] at ih1 hk
          exact ih1 hc hk
    exact lop s.ws.length 0 (by omega) (Nat.zero_le _) hk
theorem d154 {d c : Nat} {M : Mm} {k : mQ} {r : Nat} {s : Ms} {x : Int32} (h : RP M r s) (hi : IvS c s) (hk : ∀ M', RP M' r (mSet x s).2 → Rr r M M' → k (some (.inl (mSet x s).1)) M') : XC (d + 3) 154 [.inr (some r), .inl x] M k := by
  obtain ⟨h1, o1⟩ := h.th
  have or1 : Rr r M (M.si r 0 0) := o1.rr (fun _ q => q.elim)
  generalize hM1 : M.si r 0 0 = M1 at h1 o1 or1
  have hs := h.1
  have hs1 := h1.1
  have hwl : s.ws.length ≤ 120 := hi.2.2.1.1
  unfold mSet at hk
  refine xc ?_
  show X (d + 2) 154 0 [some (.inr (some r)), some (.inl x), none, none, none] [] M k
  by_cases hx : x.toInt < 0 ∨ 200 < x.toInt
  · rw [if_pos hx] at hk
    have hk := hk M1 h1 or1
    refine vc_X 20 _ _ _ _ _ _ _ ?_
    simp only [↓v154_0, ↓v154_1, ↓v154_2, ↓v154_5, ↓v154_6, ↓v154_9, ↓v154_10, ↓v154_13, ↓v154_16, ↓v154_17, ↓v154_18, ↓v154_19, ↓v154_20, ↓v154_21, ↓v154_22, ↓v154_25, ↓v154_26, ↓v154_29, ↓v154_32, ↓v154_33, ↓v154_34, ↓v154_35, ↓v154_36, ↓v154_39, ↓v154_42, ↓v154_45, ↓v154_48, ↓v154_49, ↓v154_50, ↓v154_53, ↓v154_55, ↓v154_58, ↓v154_61, ↓v154_62, ↓qI_c, ↓qL_c, ↓qR_c, ↓pA_o, ↓qC_i, ↓qC_r, ↓oA_s, ↓gI_0, ↓gI_1, ↓gI_2, ↓gI_3, ↓gI_4, ↓gI_5, ↓gI_6, ↓gI_7, ↓gI_8, ↓gI_9, ↓gI_10, ↓gR_0, ↓gR_1, ↓gR_2, ↓gR_3, ↓gR_4, ↓gR_5, ↓gR_6, ↓gR_7, ↓gR_8, ↓gR_9, ↓gR_10, ↓sL_0, ↓sL_1, ↓sL_2, ↓sL_3, ↓sL_4, ↓sL_5, ↓sL_6, ↓sL_7, ↓sL_8, ↓sL_9, ↓sL_10, ↓rrf_si, ↓rrf_sg, ↓shO_si, ↓shO_sg, ↓shO_sr, ↓shA_si, ↓shA_sg, ↓shA_sr, ↓pAs_0, ↓pAs_i, ↓pAs_r, stk_n, stk_i, stk_l, stk_r, List.nil_append, List.cons_append, true_and, and_true, true_or, or_true, Nat.zero_add, dp_s, Nat.reduceAdd, le8_0, le8_1, le8_2, le8_3, le8_4, le8_5, le8_6, le8_7, le8_8, Classical.not_not, aT40, aT41, aT42, aT44, aT54, aT58, aT59, rT54, rT58, rT59, reduceIte, Nat.reduceEqDiff, qn_42, qn_44, true_implies, not_true_eq_false, not_false_eq_true, false_implies, hM1, ↓shO_of hs.1.1, lt_T, le_T, T_0, T_200]
    exact ⟨fun _ => hk, fun _ => ⟨fun c => absurd hx (by omega), fun _ => hk⟩⟩
  · rw [if_neg hx] at hk
    obtain ⟨n, hn, rfl⟩ := inB_of (x := x) (n := 201) ⟨by omega, by omega⟩ (by omega)
    rw [nT (by omega), Int.toNat_natCast] at hk
    generalize hN : min n s.ws.length = N at hk
    have lop : ∀ (m i : Nat) (s1 : Ms) (M2 : Mm) (z3 z4 : Option mL), i + m = N → RP M2 r s1 → IvS c s1 → s1.ws.length + i = s.ws.length → stN m s1 = stN N s → Rr r M M2 → X (d + 2) 154 20 [some (.inr (some r)), some (.inl (nI n)), some (.inl (nI i)), z3, z4] [] M2 k := by
      intro m
      induction m with
      | zero =>
        intro i s1 M2 z3 z4 hm h2 hi2 hl he o2
        have hs2 := h2.1
        have f14 : M2.it r 14 = nI s1.ws.length := h2.2.1.2.1
        have ei : i = N := by omega
        subst ei
        have he : s1 = stN i s := he
        rw [← he] at hk
        have hk := hk M2 h2 o2
        refine vc_X 20 _ _ _ _ _ _ _ ?_
        simp only [↓v154_0, ↓v154_1, ↓v154_2, ↓v154_5, ↓v154_6, ↓v154_9, ↓v154_10, ↓v154_13, ↓v154_16, ↓v154_17, ↓v154_18, ↓v154_19, ↓v154_20, ↓v154_21, ↓v154_22, ↓v154_25, ↓v154_26, ↓v154_29, ↓v154_32, ↓v154_33, ↓v154_34, ↓v154_35, ↓v154_36, ↓v154_39, ↓v154_42, ↓v154_45, ↓v154_48, ↓v154_49, ↓v154_50, ↓v154_53, ↓v154_55, ↓v154_58, ↓v154_61, ↓v154_62, ↓qI_c, ↓qL_c, ↓qR_c, ↓pA_o, ↓qC_i, ↓qC_r, ↓oA_s, ↓gI_0, ↓gI_1, ↓gI_2, ↓gI_3, ↓gI_4, ↓gI_5, ↓gI_6, ↓gI_7, ↓gI_8, ↓gI_9, ↓gI_10, ↓gR_0, ↓gR_1, ↓gR_2, ↓gR_3, ↓gR_4, ↓gR_5, ↓gR_6, ↓gR_7, ↓gR_8, ↓gR_9, ↓gR_10, ↓sL_0, ↓sL_1, ↓sL_2, ↓sL_3, ↓sL_4, ↓sL_5, ↓sL_6, ↓sL_7, ↓sL_8, ↓sL_9, ↓sL_10, ↓rrf_si, ↓rrf_sg, ↓shO_si, ↓shO_sg, ↓shO_sr, ↓shA_si, ↓shA_sg, ↓shA_sr, ↓pAs_0, ↓pAs_i, ↓pAs_r, stk_n, stk_i, stk_l, stk_r, List.nil_append, List.cons_append, true_and, and_true, true_or, or_true, Nat.zero_add, dp_s, Nat.reduceAdd, le8_0, le8_1, le8_2, le8_3, le8_4, le8_5, le8_6, le8_7, le8_8, Classical.not_not, aT40, aT41, aT42, aT44, aT54, aT58, aT59, rT54, rT58, rT59, reduceIte, Nat.reduceEqDiff, qn_42, qn_44, true_implies, not_true_eq_false, not_false_eq_true, false_implies, le_T, T_0, nT (show i < 2147483648 by omega), nT (show n < 2147483648 by omega), ↓shO_of hs2.1.1, f14, nT (show s1.ws.length < 2147483648 by omega)]
        exact ⟨fun _ => hk, fun _ => ⟨fun _ => hk, fun c2 => by omega⟩⟩
      | succ m ih =>
        intro i s1 M2 z3 z4 hm h2 hi2 hl he o2
        have hs2 := h2.1
        have f14 : M2.it r 14 = nI s1.ws.length := h2.2.1.2.1
        have hx1 : s1.ws[0]? = some s1.ws[0] := List.getElem?_eq_getElem (by omega)
        have hrd := rd_first hi2 (show s1.ws.length ≠ 0 by omega)
        have hl0 : lfM s1.ws s1.ws[0] = 0 := by
          unfold rdM at hrd
          rw [hx1] at hrd
          exact beq_iff_eq.mp hrd
        refine vc_X 20 _ _ _ _ _ _ _ ?_
        simp only [↓v154_0, ↓v154_1, ↓v154_2, ↓v154_5, ↓v154_6, ↓v154_9, ↓v154_10, ↓v154_13, ↓v154_16, ↓v154_17, ↓v154_18, ↓v154_19, ↓v154_20, ↓v154_21, ↓v154_22, ↓v154_25, ↓v154_26, ↓v154_29, ↓v154_32, ↓v154_33, ↓v154_34, ↓v154_35, ↓v154_36, ↓v154_39, ↓v154_42, ↓v154_45, ↓v154_48, ↓v154_49, ↓v154_50, ↓v154_53, ↓v154_55, ↓v154_58, ↓v154_61, ↓v154_62, ↓qI_c, ↓qL_c, ↓qR_c, ↓pA_o, ↓qC_i, ↓qC_r, ↓oA_s, ↓gI_0, ↓gI_1, ↓gI_2, ↓gI_3, ↓gI_4, ↓gI_5, ↓gI_6, ↓gI_7, ↓gI_8, ↓gI_9, ↓gI_10, ↓gR_0, ↓gR_1, ↓gR_2, ↓gR_3, ↓gR_4, ↓gR_5, ↓gR_6, ↓gR_7, ↓gR_8, ↓gR_9, ↓gR_10, ↓sL_0, ↓sL_1, ↓sL_2, ↓sL_3, ↓sL_4, ↓sL_5, ↓sL_6, ↓sL_7, ↓sL_8, ↓sL_9, ↓sL_10, ↓rrf_si, ↓rrf_sg, ↓shO_si, ↓shO_sg, ↓shO_sr, ↓shA_si, ↓shA_sg, ↓shA_sr, ↓pAs_0, ↓pAs_i, ↓pAs_r, stk_n, stk_i, stk_l, stk_r, List.nil_append, List.cons_append, true_and, and_true, true_or, or_true, Nat.zero_add, dp_s, Nat.reduceAdd, le8_0, le8_1, le8_2, le8_3, le8_4, le8_5, le8_6, le8_7, le8_8, Classical.not_not, aT40, aT41, aT42, aT44, aT54, aT58, aT59, rT54, rT58, rT59, reduceIte, Nat.reduceEqDiff, qn_42, qn_44, true_implies, not_true_eq_false, not_false_eq_true, false_implies, le_T, T_0, nT (show i < 2147483648 by omega), nT (show n < 2147483648 by omega), ↓shO_of hs2.1.1, f14, nT (show s1.ws.length < 2147483648 by omega)]
        refine ⟨fun c2 => by omega, fun _ => ⟨fun c2 => by omega, fun _ => ?_⟩⟩
        show X (d + 2) 154 34 [some (.inr (some r)), some (.inl (nI n)), some (.inl (nI i)), some (.inl (nI 0)), z4] [] M2 k
        refine vc_X 20 _ _ _ _ _ _ _ ?_
        simp only [↓v154_0, ↓v154_1, ↓v154_2, ↓v154_5, ↓v154_6, ↓v154_9, ↓v154_10, ↓v154_13, ↓v154_16, ↓v154_17, ↓v154_18, ↓v154_19, ↓v154_20, ↓v154_21, ↓v154_22, ↓v154_25, ↓v154_26, ↓v154_29, ↓v154_32, ↓v154_33, ↓v154_34, ↓v154_35, ↓v154_36, ↓v154_39, ↓v154_42, ↓v154_45, ↓v154_48, ↓v154_49, ↓v154_50, ↓v154_53, ↓v154_55, ↓v154_58, ↓v154_61, ↓v154_62, ↓qI_c, ↓qL_c, ↓qR_c, ↓pA_o, ↓qC_i, ↓qC_r, ↓oA_s, ↓gI_0, ↓gI_1, ↓gI_2, ↓gI_3, ↓gI_4, ↓gI_5, ↓gI_6, ↓gI_7, ↓gI_8, ↓gI_9, ↓gI_10, ↓gR_0, ↓gR_1, ↓gR_2, ↓gR_3, ↓gR_4, ↓gR_5, ↓gR_6, ↓gR_7, ↓gR_8, ↓gR_9, ↓gR_10, ↓sL_0, ↓sL_1, ↓sL_2, ↓sL_3, ↓sL_4, ↓sL_5, ↓sL_6, ↓sL_7, ↓sL_8, ↓sL_9, ↓sL_10, ↓rrf_si, ↓rrf_sg, ↓shO_si, ↓shO_sg, ↓shO_sr, ↓shA_si, ↓shA_sg, ↓shA_sr, ↓pAs_0, ↓pAs_i, ↓pAs_r, stk_n, stk_i, stk_l, stk_r, List.nil_append, List.cons_append, true_and, and_true, true_or, or_true, Nat.zero_add, dp_s, Nat.reduceAdd, le8_0, le8_1, le8_2, le8_3, le8_4, le8_5, le8_6, le8_7, le8_8, Classical.not_not, aT40, aT41, aT42, aT44, aT54, aT58, aT59, rT54, rT58, rT59, reduceIte, Nat.reduceEqDiff, qn_42, qn_44, true_implies, not_true_eq_false, not_false_eq_true, false_implies, ↓shO_of hs2.1.1]
        refine e151 (d := d) hs2 h2.2.2.2.1.2.2.2 f14 (by omega) hi2.nb hx1 ⟨_, rfl, ?_⟩
        rw [hl0]
        refine vc_X 20 _ _ _ _ _ _ _ ?_
        simp only [↓v154_0, ↓v154_1, ↓v154_2, ↓v154_5, ↓v154_6, ↓v154_9, ↓v154_10, ↓v154_13, ↓v154_16, ↓v154_17, ↓v154_18, ↓v154_19, ↓v154_20, ↓v154_21, ↓v154_22, ↓v154_25, ↓v154_26, ↓v154_29, ↓v154_32, ↓v154_33, ↓v154_34, ↓v154_35, ↓v154_36, ↓v154_39, ↓v154_42, ↓v154_45, ↓v154_48, ↓v154_49, ↓v154_50, ↓v154_53, ↓v154_55, ↓v154_58, ↓v154_61, ↓v154_62, ↓qI_c, ↓qL_c, ↓qR_c, ↓pA_o, ↓qC_i, ↓qC_r, ↓oA_s, ↓gI_0, ↓gI_1, ↓gI_2, ↓gI_3, ↓gI_4, ↓gI_5, ↓gI_6, ↓gI_7, ↓gI_8, ↓gI_9, ↓gI_10, ↓gR_0, ↓gR_1, ↓gR_2, ↓gR_3, ↓gR_4, ↓gR_5, ↓gR_6, ↓gR_7, ↓gR_8, ↓gR_9, ↓gR_10, ↓sL_0, ↓sL_1, ↓sL_2, ↓sL_3, ↓sL_4, ↓sL_5, ↓sL_6, ↓sL_7, ↓sL_8, ↓sL_9, ↓sL_10, ↓rrf_si, ↓rrf_sg, ↓shO_si, ↓shO_sg, ↓shO_sr, ↓shA_si, ↓shA_sg, ↓shA_sr, ↓pAs_0, ↓pAs_i, ↓pAs_r, stk_n, stk_i, stk_l, stk_r, List.nil_append, List.cons_append, true_and, and_true, true_or, or_true, Nat.zero_add, dp_s, Nat.reduceAdd, le8_0, le8_1, le8_2, le8_3, le8_4, le8_5, le8_6, le8_7, le8_8, Classical.not_not, aT40, aT41, aT42, aT44, aT54, aT58, aT59, rT54, rT58, rT59, reduceIte, Nat.reduceEqDiff, qn_42, qn_44, true_implies, not_true_eq_false, not_false_eq_true, false_implies, le_T, T_0, nT (show 0 < 2147483648 by omega), ↓shO_of hs2.1.1]
        refine ⟨fun _ => ?_, fun c2 => absurd (by decide) c2⟩
        refine e153 h2 hi2.nb (by omega) hx1 (fun M3 h3 o3 => ⟨_, rfl, ?_⟩)
        refine vc_X 20 _ _ _ _ _ _ _ ?_
        simp only [↓v154_0, ↓v154_1, ↓v154_2, ↓v154_5, ↓v154_6, ↓v154_9, ↓v154_10, ↓v154_13, ↓v154_16, ↓v154_17, ↓v154_18, ↓v154_19, ↓v154_20, ↓v154_21, ↓v154_22, ↓v154_25, ↓v154_26, ↓v154_29, ↓v154_32, ↓v154_33, ↓v154_34, ↓v154_35, ↓v154_36, ↓v154_39, ↓v154_42, ↓v154_45, ↓v154_48, ↓v154_49, ↓v154_50, ↓v154_53, ↓v154_55, ↓v154_58, ↓v154_61, ↓v154_62, ↓qI_c, ↓qL_c, ↓qR_c, ↓pA_o, ↓qC_i, ↓qC_r, ↓oA_s, ↓gI_0, ↓gI_1, ↓gI_2, ↓gI_3, ↓gI_4, ↓gI_5, ↓gI_6, ↓gI_7, ↓gI_8, ↓gI_9, ↓gI_10, ↓gR_0, ↓gR_1, ↓gR_2, ↓gR_3, ↓gR_4, ↓gR_5, ↓gR_6, ↓gR_7, ↓gR_8, ↓gR_9, ↓gR_10, ↓sL_0, ↓sL_1, ↓sL_2, ↓sL_3, ↓sL_4, ↓sL_5, ↓sL_6, ↓sL_7, ↓sL_8, ↓sL_9, ↓sL_10, ↓rrf_si, ↓rrf_sg, ↓shO_si, ↓shO_sg, ↓shO_sr, ↓shA_si, ↓shA_sg, ↓shA_sr, ↓pAs_0, ↓pAs_i, ↓pAs_r, stk_n, stk_i, stk_l, stk_r, List.nil_append, List.cons_append, true_and, and_true, true_or, or_true, Nat.zero_add, dp_s, Nat.reduceAdd, le8_0, le8_1, le8_2, le8_3, le8_4, le8_5, le8_6, le8_7, le8_8, Classical.not_not, aT40, aT41, aT42, aT44, aT54, aT58, aT59, rT54, rT58, rT59, reduceIte, Nat.reduceEqDiff, qn_42, qn_44, true_implies, not_true_eq_false, not_false_eq_true, false_implies, nI_1]
        have hll := land_len (s := s1) (i := 0) (by omega)
        exact ih (i + 1) (landM 0 s1) M3 _ _ (by omega) h3 (inv_land hi2 hrd) (by omega) he (o2.trans o3 (fun _ q => q))
    refine vc_X 20 _ _ _ _ _ _ _ ?_
    simp only [↓v154_0, ↓v154_1, ↓v154_2, ↓v154_5, ↓v154_6, ↓v154_9, ↓v154_10, ↓v154_13, ↓v154_16, ↓v154_17, ↓v154_18, ↓v154_19, ↓v154_20, ↓v154_21, ↓v154_22, ↓v154_25, ↓v154_26, ↓v154_29, ↓v154_32, ↓v154_33, ↓v154_34, ↓v154_35, ↓v154_36, ↓v154_39, ↓v154_42, ↓v154_45, ↓v154_48, ↓v154_49, ↓v154_50, ↓v154_53, ↓v154_55, ↓v154_58, ↓v154_61, ↓v154_62, ↓qI_c, ↓qL_c, ↓qR_c, ↓pA_o, ↓qC_i, ↓qC_r, ↓oA_s, ↓gI_0, ↓gI_1, ↓gI_2, ↓gI_3, ↓gI_4, ↓gI_5, ↓gI_6, ↓gI_7, ↓gI_8, ↓gI_9, ↓gI_10, ↓gR_0, ↓gR_1, ↓gR_2, ↓gR_3, ↓gR_4, ↓gR_5, ↓gR_6, ↓gR_7, ↓gR_8, ↓gR_9, ↓gR_10, ↓sL_0, ↓sL_1, ↓sL_2, ↓sL_3, ↓sL_4, ↓sL_5, ↓sL_6, ↓sL_7, ↓sL_8, ↓sL_9, ↓sL_10, ↓rrf_si, ↓rrf_sg, ↓shO_si, ↓shO_sg, ↓shO_sr, ↓shA_si, ↓shA_sg, ↓shA_sr, ↓pAs_0, ↓pAs_i, ↓pAs_r, stk_n, stk_i, stk_l, stk_r, List.nil_append, List.cons_append, true_and, and_true, true_or, or_true, Nat.zero_add, dp_s, Nat.reduceAdd, le8_0, le8_1, le8_2, le8_3, le8_4, le8_5, le8_6, le8_7, le8_8, Classical.not_not, aT40, aT41, aT42, aT44, aT54, aT58, aT59, rT54, rT58, rT59, reduceIte, Nat.reduceEqDiff, qn_42, qn_44, true_implies, not_true_eq_false, not_false_eq_true, false_implies, hM1, ↓shO_of hs.1.1, lt_T, le_T, T_0, T_200, nT (show n < 2147483648 by omega)]
    refine ⟨fun c2 => by omega, fun _ => ⟨fun _ => ?_, fun c2 => by omega⟩⟩
    exact lop N 0 s M1 _ _ (by omega) h1 hi (by omega) rfl or1
theorem d155 {d c : Nat} {M : Mm} {k : mQ} {r : Nat} {s : Ms} (h : RP M r s) (hi : IvS c s) (hc : c ≤ 512) (hk : ∀ M', RP M' r (mCra s).2 → Rr r M M' → k (some (.inl (mCra s).1)) M') : XC (d + 2) 155 [.inr (some r)] M k := by
  obtain ⟨h1, o1⟩ := h.th
  have or1 : Rr r M (M.si r 0 0) := o1.rr (fun _ q => q.elim)
  generalize hM1 : M.si r 0 0 = M1 at h1 o1 or1
  have hs := h.1
  have hs1 := h1.1
  have f5 : M1.it r 5 = bI s.off := h1.2.1.1.2.1
  have f14 : M1.it r 14 = nI s.ws.length := h1.2.1.2.1
  have hm : s.mu ≤ c := hi.2.2.1.2.2.2.1
  unfold mCra at hk
  refine xc ?_
  show X (d + 1) 155 0 [some (.inr (some r)), none, none] [] M k
  cases ho : s.off with
  | true =>
    rw [ho, bI_t] at f5
    rw [if_pos ho] at hk
    refine vc_X 20 _ _ _ _ _ _ _ ?_
    simp only [↓v155_0, ↓v155_1, ↓v155_2, ↓v155_5, ↓v155_6, ↓v155_9, ↓v155_12, ↓v155_13, ↓v155_14, ↓v155_15, ↓v155_18, ↓v155_19, ↓v155_20, ↓v155_21, ↓v155_24, ↓v155_25, ↓v155_26, ↓v155_29, ↓v155_30, ↓v155_31, ↓v155_34, ↓v155_35, ↓v155_38, ↓v155_40, ↓v155_41, ↓v155_44, ↓v155_45, ↓v155_46, ↓v155_47, ↓v155_48, ↓v155_49, ↓v155_50, ↓v155_51, ↓v155_52, ↓v155_53, ↓v155_56, ↓v155_59, ↓v155_60, ↓v155_63, ↓v155_64, ↓v155_65, ↓v155_66, ↓v155_69, ↓v155_72, ↓v155_73, ↓qI_c, ↓qL_c, ↓qR_c, ↓pA_o, ↓qC_i, ↓qC_r, ↓oA_s, ↓gI_0, ↓gI_1, ↓gI_2, ↓gI_3, ↓gI_4, ↓gI_5, ↓gI_6, ↓gI_7, ↓gI_8, ↓gI_9, ↓gI_10, ↓gR_0, ↓gR_1, ↓gR_2, ↓gR_3, ↓gR_4, ↓gR_5, ↓gR_6, ↓gR_7, ↓gR_8, ↓gR_9, ↓gR_10, ↓sL_0, ↓sL_1, ↓sL_2, ↓sL_3, ↓sL_4, ↓sL_5, ↓sL_6, ↓sL_7, ↓sL_8, ↓sL_9, ↓sL_10, ↓rrf_si, ↓rrf_sg, ↓shO_si, ↓shO_sg, ↓shO_sr, ↓shA_si, ↓shA_sg, ↓shA_sr, ↓pAs_0, ↓pAs_i, ↓pAs_r, stk_n, stk_i, stk_l, stk_r, List.nil_append, List.cons_append, true_and, and_true, true_or, or_true, Nat.zero_add, dp_s, Nat.reduceAdd, le8_0, le8_1, le8_2, le8_3, le8_4, le8_5, le8_6, le8_7, le8_8, Classical.not_not, aT40, aT41, aT42, aT44, aT54, aT58, aT59, rT54, rT58, rT59, reduceIte, Nat.reduceEqDiff, qn_42, qn_44, true_implies, not_true_eq_false, not_false_eq_true, false_implies, hM1, ↓shO_of hs.1.1, f5, i10]
    exact hk M1 h1 or1
  | false =>
    rw [ho, bI_f] at f5
    rw [if_neg (by rw [ho]; decide)] at hk
    generalize hM2 : ((M1.si r 5 1).si r 14 0).si r 27 0 = M2
    have o2 : Rf r (fun _ => False) [5, 14, 27] M1 M2 := by rw [← hM2]; exact ((Rf.rf_.fld (by simp)).fld (by simp)).fld (by simp)
    have g5 : M2.it r 5 = 1 := by rw [← hM2, si_it, if_neg (by simp), si_it, if_neg (by simp), si_it, if_pos ⟨rfl, rfl⟩]
    have g14 : M2.it r 14 = 0 := by rw [← hM2, si_it, if_neg (by simp), si_it, if_pos ⟨rfl, rfl⟩]
    have g27 : M2.it r 27 = 0 := by rw [← hM2, si_it, if_pos ⟨rfl, rfl⟩]
    have hs2 := hs1.oi o2.1
    have sl2 := h1.2.2.1.2.2.1.rf o2 (fun q => q.elim)
    have sa := slot_at sl2
    have sl := slL_le s.s0 s.s1
    have hRb := R_le hi
    have hR2 := hRb.2.1
    generalize hA : s.R.2.1 = A at hk hR2
    have e1 : M2.it (r + 3) (18 * slL s.s0 s.s1 + 1) = nI A := by rw [← hA]; exact sa.2.1
    have e2 : (18 : Int32) * nI (slL s.s0 s.s1) + 1 = nI (18 * slL s.s0 s.s1 + 1) := by rw [n_18, pk_mul, n_1, nI_add]
    have b0 : s.s0.1 < 100000 := by have := hi.2.2.2.1.2.1.1; omega
    have b1 : ∀ q, s.s1 = some q → q.1 < 100000 := fun q hq => by have := (hi.2.2.2.1.2.2.1 q hq).1; omega
    have lop : ∀ (m j : Nat) (M3 : Mm), s.mu + 1 ≤ j + m → A < j → j ≤ 520 → Rf r (· = r + 16) [] M2 M3 → (∀ u, u < 513 → M3.it (r + 16) u = bI (s.lo u || (decide (A < u) && decide (u < j) && decide (u ≤ s.mu)))) → X (d + 1) 155 51 [some (.inr (some r)), some (.inl (nI s.ws.length)), some (.inl (nI j))] [] M3 k := by
      intro m
      have ex : ∀ (j : Nat) (M3 : Mm), s.mu < j → j ≤ 520 → Rf r (· = r + 16) [] M2 M3 → (∀ u, u < 513 → M3.it (r + 16) u = bI (s.lo u || (decide (A < u) && decide (u < j) && decide (u ≤ s.mu)))) → X (d + 1) 155 51 [some (.inr (some r)), some (.inl (nI s.ws.length)), some (.inl (nI j))] [] M3 k := by
        intro j M3 hj hj2 o3 y3
        have hs3 := hs2.oi o3.1
        have g13 : M3.it r 13 = nI s.mu := by rw [o3.2 13 (by simp), o2.2 13 (by simp)]; exact h1.2.1.1.2.2.2.2.2.2
        refine vc_X 20 _ _ _ _ _ _ _ ?_
        simp only [↓v155_0, ↓v155_1, ↓v155_2, ↓v155_5, ↓v155_6, ↓v155_9, ↓v155_12, ↓v155_13, ↓v155_14, ↓v155_15, ↓v155_18, ↓v155_19, ↓v155_20, ↓v155_21, ↓v155_24, ↓v155_25, ↓v155_26, ↓v155_29, ↓v155_30, ↓v155_31, ↓v155_34, ↓v155_35, ↓v155_38, ↓v155_40, ↓v155_41, ↓v155_44, ↓v155_45, ↓v155_46, ↓v155_47, ↓v155_48, ↓v155_49, ↓v155_50, ↓v155_51, ↓v155_52, ↓v155_53, ↓v155_56, ↓v155_59, ↓v155_60, ↓v155_63, ↓v155_64, ↓v155_65, ↓v155_66, ↓v155_69, ↓v155_72, ↓v155_73, ↓qI_c, ↓qL_c, ↓qR_c, ↓pA_o, ↓qC_i, ↓qC_r, ↓oA_s, ↓gI_0, ↓gI_1, ↓gI_2, ↓gI_3, ↓gI_4, ↓gI_5, ↓gI_6, ↓gI_7, ↓gI_8, ↓gI_9, ↓gI_10, ↓gR_0, ↓gR_1, ↓gR_2, ↓gR_3, ↓gR_4, ↓gR_5, ↓gR_6, ↓gR_7, ↓gR_8, ↓gR_9, ↓gR_10, ↓sL_0, ↓sL_1, ↓sL_2, ↓sL_3, ↓sL_4, ↓sL_5, ↓sL_6, ↓sL_7, ↓sL_8, ↓sL_9, ↓sL_10, ↓rrf_si, ↓rrf_sg, ↓shO_si, ↓shO_sg, ↓shO_sr, ↓shA_si, ↓shA_sg, ↓shA_sr, ↓pAs_0, ↓pAs_i, ↓pAs_r, stk_n, stk_i, stk_l, stk_r, List.nil_append, List.cons_append, true_and, and_true, true_or, or_true, Nat.zero_add, dp_s, Nat.reduceAdd, le8_0, le8_1, le8_2, le8_3, le8_4, le8_5, le8_6, le8_7, le8_8, Classical.not_not, aT40, aT41, aT42, aT44, aT54, aT58, aT59, rT54, rT58, rT59, reduceIte, Nat.reduceEqDiff, qn_42, qn_44, true_implies, not_true_eq_false, not_false_eq_true, false_implies, ↓shO_of hs3.1.1, g13, lt_T, nT (show j < 2147483648 by omega), nT (show s.mu < 2147483648 by omega)]
        refine ⟨fun _ => ?_, fun c2 => by omega⟩
        have o23 : Rf r (· = r + 16) [5, 14, 27] M1 M3 := (o2.mono (fun _ q => q.elim) (fun _ q => q)).trans o3 (fun _ q => q) (fun _ q => by cases q)
        refine hk M3 (h1.uX (lo2 := fun h => s.lo h || (decide (A < h) && decide (h ≤ s.mu))) o23 (by decide) ⟨by omega, by omega, by omega, by omega, by omega, by omega, by omega, by omega⟩ ?_ ?_ ?_ ?_ ?_ ?_ ?_) (or1.trans (o23.rr (fun y hy => by omega)) (fun _ q => q))
        · rw [o3.2 5 (by simp)]; exact g5
        · rw [o3.2 14 (by simp)]; exact g14
        · rw [o3.2 27 (by simp)]; exact g27
        · exact h1.2.2.1.2.2.2.2.mk (fun j => o23.at_ (by omega) (by omega) j) rfl rfl (fun w q hw2 _ => by cases hw2)
        · intro i w hw
          have hw : ([] : List Wm)[i]? = some w := hw
          simp at hw
        · intro u hu
          rw [y3 u hu]
          show bI _ = bI (s.lo u || (decide (A < u) && decide (u ≤ s.mu)))
          congr 2
          by_cases c3 : u ≤ s.mu
          · rw [decide_eq_true (show u < j by omega), Bool.and_true]
          · rw [decide_eq_false c3, Bool.and_false, Bool.and_false]
        · exact ⟨fun i w hw => by have hw : ([] : List Nat)[i]? = some w := hw; simp at hw, by show 0 ≤ 6; omega, fun v hv => by cases hv⟩
      induction m with
      | zero =>
        intro j M3 hj hA2 hj2 o3 y3
        exact ex j M3 (by omega) hj2 o3 y3
      | succ m ih =>
        intro j M3 hj hA2 hj2 o3 y3
        by_cases cj : s.mu < j
        · exact ex j M3 cj hj2 o3 y3
        · have hs3 := hs2.oi o3.1
          have g13 : M3.it r 13 = nI s.mu := by rw [o3.2 13 (by simp), o2.2 13 (by simp)]; exact h1.2.1.1.2.2.2.2.2.2
          refine vc_X 20 _ _ _ _ _ _ _ ?_
          simp only [↓v155_0, ↓v155_1, ↓v155_2, ↓v155_5, ↓v155_6, ↓v155_9, ↓v155_12, ↓v155_13, ↓v155_14, ↓v155_15, ↓v155_18, ↓v155_19, ↓v155_20, ↓v155_21, ↓v155_24, ↓v155_25, ↓v155_26, ↓v155_29, ↓v155_30, ↓v155_31, ↓v155_34, ↓v155_35, ↓v155_38, ↓v155_40, ↓v155_41, ↓v155_44, ↓v155_45, ↓v155_46, ↓v155_47, ↓v155_48, ↓v155_49, ↓v155_50, ↓v155_51, ↓v155_52, ↓v155_53, ↓v155_56, ↓v155_59, ↓v155_60, ↓v155_63, ↓v155_64, ↓v155_65, ↓v155_66, ↓v155_69, ↓v155_72, ↓v155_73, ↓qI_c, ↓qL_c, ↓qR_c, ↓pA_o, ↓qC_i, ↓qC_r, ↓oA_s, ↓gI_0, ↓gI_1, ↓gI_2, ↓gI_3, ↓gI_4, ↓gI_5, ↓gI_6, ↓gI_7, ↓gI_8, ↓gI_9, ↓gI_10, ↓gR_0, ↓gR_1, ↓gR_2, ↓gR_3, ↓gR_4, ↓gR_5, ↓gR_6, ↓gR_7, ↓gR_8, ↓gR_9, ↓gR_10, ↓sL_0, ↓sL_1, ↓sL_2, ↓sL_3, ↓sL_4, ↓sL_5, ↓sL_6, ↓sL_7, ↓sL_8, ↓sL_9, ↓sL_10, ↓rrf_si, ↓rrf_sg, ↓shO_si, ↓shO_sg, ↓shO_sr, ↓shA_si, ↓shA_sg, ↓shA_sr, ↓pAs_0, ↓pAs_i, ↓pAs_r, stk_n, stk_i, stk_l, stk_r, List.nil_append, List.cons_append, true_and, and_true, true_or, or_true, Nat.zero_add, dp_s, Nat.reduceAdd, le8_0, le8_1, le8_2, le8_3, le8_4, le8_5, le8_6, le8_7, le8_8, Classical.not_not, aT40, aT41, aT42, aT44, aT54, aT58, aT59, rT54, rT58, rT59, reduceIte, Nat.reduceEqDiff, qn_42, qn_44, true_implies, not_true_eq_false, not_false_eq_true, false_implies, ↓shO_of hs3.1.1, g13, lt_T, nT (show j < 2147483648 by omega), nT (show s.mu < 2147483648 by omega), ↓rrf_of hs3.2.2.1.2.1, ↓shA_of hs3.2.2.2.2.1.2.2.2.2.2.2.2, nC (show j < 2147483648 by omega), nI_1]
          refine ⟨fun c2 => by omega, fun _ => ⟨inB_n (by omega) (by omega), ?_⟩⟩
          refine ih (j + 1) _ (by omega) (by omega) (by omega) (o3.row rfl (by omega)) (fun u hu => ?_)
          rw [si_it]
          by_cases cu : u = j
          · subst cu
            rw [if_pos ⟨rfl, rfl⟩, decide_eq_true (show A < u by omega), decide_eq_true (show u < u + 1 by omega), decide_eq_true (show u ≤ s.mu by omega), Bool.and_true, Bool.and_true, Bool.or_true]
            rfl
          · rw [if_neg (fun z => cu z.2), y3 u hu]
            congr 2
            by_cases c4 : u < j
            · rw [decide_eq_true c4, decide_eq_true (show u < j + 1 by omega)]
            · rw [decide_eq_false c4, decide_eq_false (show ¬ u < j + 1 by omega)]
    refine vc_X 40 _ _ _ _ _ _ _ ?_
    simp only [↓v155_0, ↓v155_1, ↓v155_2, ↓v155_5, ↓v155_6, ↓v155_9, ↓v155_12, ↓v155_13, ↓v155_14, ↓v155_15, ↓v155_18, ↓v155_19, ↓v155_20, ↓v155_21, ↓v155_24, ↓v155_25, ↓v155_26, ↓v155_29, ↓v155_30, ↓v155_31, ↓v155_34, ↓v155_35, ↓v155_38, ↓v155_40, ↓v155_41, ↓v155_44, ↓v155_45, ↓v155_46, ↓v155_47, ↓v155_48, ↓v155_49, ↓v155_50, ↓v155_51, ↓v155_52, ↓v155_53, ↓v155_56, ↓v155_59, ↓v155_60, ↓v155_63, ↓v155_64, ↓v155_65, ↓v155_66, ↓v155_69, ↓v155_72, ↓v155_73, ↓qI_c, ↓qL_c, ↓qR_c, ↓pA_o, ↓qC_i, ↓qC_r, ↓oA_s, ↓gI_0, ↓gI_1, ↓gI_2, ↓gI_3, ↓gI_4, ↓gI_5, ↓gI_6, ↓gI_7, ↓gI_8, ↓gI_9, ↓gI_10, ↓gR_0, ↓gR_1, ↓gR_2, ↓gR_3, ↓gR_4, ↓gR_5, ↓gR_6, ↓gR_7, ↓gR_8, ↓gR_9, ↓gR_10, ↓sL_0, ↓sL_1, ↓sL_2, ↓sL_3, ↓sL_4, ↓sL_5, ↓sL_6, ↓sL_7, ↓sL_8, ↓sL_9, ↓sL_10, ↓rrf_si, ↓rrf_sg, ↓shO_si, ↓shO_sg, ↓shO_sr, ↓shA_si, ↓shA_sg, ↓shA_sr, ↓pAs_0, ↓pAs_i, ↓pAs_r, stk_n, stk_i, stk_l, stk_r, List.nil_append, List.cons_append, true_and, and_true, true_or, or_true, Nat.zero_add, dp_s, Nat.reduceAdd, le8_0, le8_1, le8_2, le8_3, le8_4, le8_5, le8_6, le8_7, le8_8, Classical.not_not, aT40, aT41, aT42, aT44, aT54, aT58, aT59, rT54, rT58, rT59, reduceIte, Nat.reduceEqDiff, qn_42, qn_44, true_implies, not_true_eq_false, not_false_eq_true, false_implies, hM1, ↓shO_of hs.1.1, f5, i00, f14, hM2, ↓rrf_of hs.1.2.2.2.1]
    refine e149 (s := s) hs2 sl2 b0 b1 ⟨_, rfl, ?_⟩
    refine vc_X 20 _ _ _ _ _ _ _ ?_
    simp only [↓v155_0, ↓v155_1, ↓v155_2, ↓v155_5, ↓v155_6, ↓v155_9, ↓v155_12, ↓v155_13, ↓v155_14, ↓v155_15, ↓v155_18, ↓v155_19, ↓v155_20, ↓v155_21, ↓v155_24, ↓v155_25, ↓v155_26, ↓v155_29, ↓v155_30, ↓v155_31, ↓v155_34, ↓v155_35, ↓v155_38, ↓v155_40, ↓v155_41, ↓v155_44, ↓v155_45, ↓v155_46, ↓v155_47, ↓v155_48, ↓v155_49, ↓v155_50, ↓v155_51, ↓v155_52, ↓v155_53, ↓v155_56, ↓v155_59, ↓v155_60, ↓v155_63, ↓v155_64, ↓v155_65, ↓v155_66, ↓v155_69, ↓v155_72, ↓v155_73, ↓qI_c, ↓qL_c, ↓qR_c, ↓pA_o, ↓qC_i, ↓qC_r, ↓oA_s, ↓gI_0, ↓gI_1, ↓gI_2, ↓gI_3, ↓gI_4, ↓gI_5, ↓gI_6, ↓gI_7, ↓gI_8, ↓gI_9, ↓gI_10, ↓gR_0, ↓gR_1, ↓gR_2, ↓gR_3, ↓gR_4, ↓gR_5, ↓gR_6, ↓gR_7, ↓gR_8, ↓gR_9, ↓gR_10, ↓sL_0, ↓sL_1, ↓sL_2, ↓sL_3, ↓sL_4, ↓sL_5, ↓sL_6, ↓sL_7, ↓sL_8, ↓sL_9, ↓sL_10, ↓rrf_si, ↓rrf_sg, ↓shO_si, ↓shO_sg, ↓shO_sr, ↓shA_si, ↓shA_sg, ↓shA_sr, ↓pAs_0, ↓pAs_i, ↓pAs_r, stk_n, stk_i, stk_l, stk_r, List.nil_append, List.cons_append, true_and, and_true, true_or, or_true, Nat.zero_add, dp_s, Nat.reduceAdd, le8_0, le8_1, le8_2, le8_3, le8_4, le8_5, le8_6, le8_7, le8_8, Classical.not_not, aT40, aT41, aT42, aT44, aT54, aT58, aT59, rT54, rT58, rT59, reduceIte, Nat.reduceEqDiff, qn_42, qn_44, true_implies, not_true_eq_false, not_false_eq_true, false_implies, e2, ↓shA_of hs2.2.2.2.1.2.2.1, nC (show 18 * slL s.s0 s.s1 + 1 < 2147483648 by omega), e1, nI_1]
    refine ⟨inB_n (by omega) (by omega), ?_⟩
    refine lop (s.mu + 1) (A + 1) M2 (by omega) (by omega) (by omega) Rf.rf_ (fun u hu => ?_)
    rw [o2.at_ (by omega) (fun q => q.elim), h1.2.2.2.2.1.1 u hu]
    congr 1
    by_cases c4 : A < u
    · rw [decide_eq_false (show ¬ u < A + 1 by omega), Bool.and_false, Bool.false_and, Bool.or_false]
    · rw [decide_eq_false c4, Bool.false_and, Bool.false_and, Bool.or_false]
