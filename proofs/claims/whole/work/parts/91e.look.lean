/-! the reference: looking in -/
theorem plO_ok {ch : Nat → Option Nat} {tb : TbT} (h1 : spOK ch) (h2 : ∀ z ∈ tb, spOK z.2) {i v : Nat} (hi : i < 48) (hv : plO ch tb (some i) = some v) : v < 128 := by
  have hT : ∀ l : TbT, (∀ z ∈ l, spOK z.2) → okO (lkT l (some i)) := by
    intro l
    induction l with
    | nil => intro _ p hp; cases hp
    | cons z l ihl => intro hz; exact okO_or (fun p hp => hz z (by simp) i p hi hp) (ihl (fun y hy => hz y (by simp [hy])))
  exact noG_lt (okO_or (fun p hp => h1 i p hi hp) (hT tb h2)) hv
theorem RP.pl {M : Mm} {r : Nat} {s : Ms} (h : RP M r s) {i v : Nat} (hi : i < 48) (hv : plO s.ch s.tb (some i) = some v) : v < 128 := plO_ok h.2.2.2.2.2.1 (fun z hz => (h.2.2.2.2.2.2.2.1 z hz).1) hi hv
theorem f129 {d : Nat} {M : Mm} {k : mQ} {r key : Nat} {s : Ms} (h : RP M r s) (hk48 : key < 48) (hk : k (some (.inl (oI (plO s.ch s.tb (some key))))) M) : XC (d + 1) 129 [.inr (some r), .inl (nI key)] M k := e129 h.1 h.2.2.2.1.2.1 h.2.2.2.1.2.2.1 h.2.1.1.2.2.2.2.1 h.2.2.2.2.2.2.1 h.2.2.2.2.2.1 (fun z hz => (h.2.2.2.2.2.2.2.1 z hz).1) hk48 hk
theorem d137 {d c : Nat} {M : Mm} {k : mQ} {r : Nat} {s : Ms} {i : Int32} (h : RP M r s) (hi : IvS c s) (hk : ∀ M', RP M' r s → Rr r M M' → k (some (.inl (mOct i s).1)) M') : XC (d + 1) 137 [.inr (some r), .inl i] M k := by
  obtain ⟨h1, o1⟩ := h.th
  have hk1 := hk _ h1 (o1.rr (fun _ q => q.elim))
  clear hk
  generalize hM1 : M.si r 0 0 = M1 at h1 o1 hk1
  have hs := h.1
  have h34 : M1.it r 34 = nI s.ou.length := h1.2.1.2.2.2.2.2
  have hou := h1.2.2.2.2.1.2.2
  have hl : s.ou.length ≤ 100 := hi.2.2.2.2.2.2.2.1
  refine xc ?_
  show X d 137 0 [some (.inr (some r)), some (.inl i)] [] M k
  unfold mOct at hk1
  cases he : idx i s.ou.length with
  | none =>
    rw [he] at hk1
    have := idx_no he
    unfold inB at this
    refine vc_X 20 _ _ _ _ _ _ _ ?_
    simp only [↓v137_0, ↓v137_1, ↓v137_2, ↓v137_5, ↓v137_6, ↓v137_9, ↓v137_10, ↓v137_11, ↓v137_14, ↓v137_17, ↓v137_18, ↓v137_21, ↓v137_22, ↓v137_25, ↓v137_26, ↓v137_27, ↓v137_30, ↓v137_31, ↓qI_c, ↓qL_c, ↓qR_c, ↓pA_o, ↓qC_i, ↓qC_r, ↓oA_s, ↓gI_0, ↓gI_1, ↓gI_2, ↓gI_3, ↓gI_4, ↓gI_5, ↓gI_6, ↓gI_7, ↓gI_8, ↓gI_9, ↓gI_10, ↓gR_0, ↓gR_1, ↓gR_2, ↓gR_3, ↓gR_4, ↓gR_5, ↓gR_6, ↓gR_7, ↓gR_8, ↓gR_9, ↓gR_10, ↓sL_0, ↓sL_1, ↓sL_2, ↓sL_3, ↓sL_4, ↓sL_5, ↓sL_6, ↓sL_7, ↓sL_8, ↓sL_9, ↓sL_10, ↓rrf_si, ↓rrf_sg, ↓shO_si, ↓shO_sg, ↓shO_sr, ↓shA_si, ↓shA_sg, ↓shA_sr, ↓pAs_0, ↓pAs_i, ↓pAs_r, stk_n, stk_i, stk_l, stk_r, List.nil_append, List.cons_append, true_and, and_true, true_or, or_true, Nat.zero_add, dp_s, Nat.reduceAdd, le8_0, le8_1, le8_2, le8_3, le8_4, le8_5, le8_6, le8_7, le8_8, Classical.not_not, aT40, aT41, aT42, aT44, aT54, aT58, aT59, rT54, rT58, rT59, reduceIte, Nat.reduceEqDiff, qn_42, qn_44, true_implies, not_true_eq_false, not_false_eq_true, false_implies, hM1, ↓shO_of hs.1.1, lt_T, le_T, T_0, h34, nT (show s.ou.length < 2147483648 by omega)]
    exact ⟨fun _ => hk1, fun c1 => ⟨fun c2 => absurd ⟨by omega, by omega⟩ this, fun _ => hk1⟩⟩
  | some j =>
    rw [he] at hk1
    obtain ⟨rfl, hj⟩ := idx_n he
    have hx : s.ou[j]? = some s.ou[j] := List.getElem?_eq_getElem hj
    have hv := hou j _ hx
    have hk1 : k (some (.inl (nI ((s.ou[j]?).getD 0)))) M1 := hk1
    rw [hx] at hk1
    refine vc_X 20 _ _ _ _ _ _ _ ?_
    simp only [↓v137_0, ↓v137_1, ↓v137_2, ↓v137_5, ↓v137_6, ↓v137_9, ↓v137_10, ↓v137_11, ↓v137_14, ↓v137_17, ↓v137_18, ↓v137_21, ↓v137_22, ↓v137_25, ↓v137_26, ↓v137_27, ↓v137_30, ↓v137_31, ↓qI_c, ↓qL_c, ↓qR_c, ↓pA_o, ↓qC_i, ↓qC_r, ↓oA_s, ↓gI_0, ↓gI_1, ↓gI_2, ↓gI_3, ↓gI_4, ↓gI_5, ↓gI_6, ↓gI_7, ↓gI_8, ↓gI_9, ↓gI_10, ↓gR_0, ↓gR_1, ↓gR_2, ↓gR_3, ↓gR_4, ↓gR_5, ↓gR_6, ↓gR_7, ↓gR_8, ↓gR_9, ↓gR_10, ↓sL_0, ↓sL_1, ↓sL_2, ↓sL_3, ↓sL_4, ↓sL_5, ↓sL_6, ↓sL_7, ↓sL_8, ↓sL_9, ↓sL_10, ↓rrf_si, ↓rrf_sg, ↓shO_si, ↓shO_sg, ↓shO_sr, ↓shA_si, ↓shA_sg, ↓shA_sr, ↓pAs_0, ↓pAs_i, ↓pAs_r, stk_n, stk_i, stk_l, stk_r, List.nil_append, List.cons_append, true_and, and_true, true_or, or_true, Nat.zero_add, dp_s, Nat.reduceAdd, le8_0, le8_1, le8_2, le8_3, le8_4, le8_5, le8_6, le8_7, le8_8, Classical.not_not, aT40, aT41, aT42, aT44, aT54, aT58, aT59, rT54, rT58, rT59, reduceIte, Nat.reduceEqDiff, qn_42, qn_44, true_implies, not_true_eq_false, not_false_eq_true, false_implies, hM1, ↓shO_of hs.1.1, lt_T, le_T, T_0, h34, nT (show s.ou.length < 2147483648 by omega), nT (show j < 2147483648 by omega), ↓rrf_of hs.2.2.1.2.2.2.1, ↓shA_of hs.2.2.2.2.2.2.1, nC (show j < 2147483648 by omega), hv]
    exact ⟨fun c => by omega, fun _ => ⟨fun _ => ⟨inB_n (by omega) (by omega), hk1⟩, fun c => by omega⟩⟩
theorem d138 {d : Nat} {M : Mm} {k : mQ} {r : Nat} {s : Ms} {x : Int32} (h : RP M r s) (hk : ∀ M', RP M' r s → Rr r M M' → k (some (.inl (mList x s).1)) M') : XC (d + 2) 138 [.inr (some r), .inl x] M k := by
  obtain ⟨h1, o1⟩ := h.th
  have hk1 := hk _ h1 (o1.rr (fun _ q => q.elim))
  clear hk
  generalize hM1 : M.si r 0 0 = M1 at h1 o1 hk1
  have hs := h.1
  have h5 : M1.it r 5 = bI s.off := h1.2.1.1.2.1
  have h11 : M1.it r 11 = nI s.tb.length := h1.2.1.1.2.2.2.2.1
  refine xc ?_
  show X (d + 1) 138 0 [some (.inr (some r)), some (.inl x), none, none] [] M k
  unfold mList at hk1
  cases ho : s.off with
  | true =>
    rw [ho, bI_t] at h5
    rw [if_pos (Or.inl ho)] at hk1
    refine vc_X 20 _ _ _ _ _ _ _ ?_
    simp only [↓v138_0, ↓v138_1, ↓v138_2, ↓v138_5, ↓v138_6, ↓v138_9, ↓v138_12, ↓v138_13, ↓v138_16, ↓v138_17, ↓v138_18, ↓v138_19, ↓v138_20, ↓v138_21, ↓v138_22, ↓v138_23, ↓v138_25, ↓v138_28, ↓v138_29, ↓v138_30, ↓v138_33, ↓v138_34, ↓v138_37, ↓v138_40, ↓v138_41, ↓v138_44, ↓v138_45, ↓v138_46, ↓v138_49, ↓v138_52, ↓v138_55, ↓v138_56, ↓qI_c, ↓qL_c, ↓qR_c, ↓pA_o, ↓qC_i, ↓qC_r, ↓oA_s, ↓gI_0, ↓gI_1, ↓gI_2, ↓gI_3, ↓gI_4, ↓gI_5, ↓gI_6, ↓gI_7, ↓gI_8, ↓gI_9, ↓gI_10, ↓gR_0, ↓gR_1, ↓gR_2, ↓gR_3, ↓gR_4, ↓gR_5, ↓gR_6, ↓gR_7, ↓gR_8, ↓gR_9, ↓gR_10, ↓sL_0, ↓sL_1, ↓sL_2, ↓sL_3, ↓sL_4, ↓sL_5, ↓sL_6, ↓sL_7, ↓sL_8, ↓sL_9, ↓sL_10, ↓rrf_si, ↓rrf_sg, ↓shO_si, ↓shO_sg, ↓shO_sr, ↓shA_si, ↓shA_sg, ↓shA_sr, ↓pAs_0, ↓pAs_i, ↓pAs_r, stk_n, stk_i, stk_l, stk_r, List.nil_append, List.cons_append, true_and, and_true, true_or, or_true, Nat.zero_add, dp_s, Nat.reduceAdd, le8_0, le8_1, le8_2, le8_3, le8_4, le8_5, le8_6, le8_7, le8_8, Classical.not_not, aT40, aT41, aT42, aT44, aT54, aT58, aT59, rT54, rT58, rT59, reduceIte, Nat.reduceEqDiff, qn_42, qn_44, true_implies, not_true_eq_false, not_false_eq_true, false_implies, hM1, ↓shO_of hs.1.1, h5, i10]
    exact hk1
  | false =>
    rw [ho, bI_f] at h5
    by_cases hx : x.toInt < 0
    · rw [if_pos (Or.inr hx)] at hk1
      refine vc_X 20 _ _ _ _ _ _ _ ?_
      simp only [↓v138_0, ↓v138_1, ↓v138_2, ↓v138_5, ↓v138_6, ↓v138_9, ↓v138_12, ↓v138_13, ↓v138_16, ↓v138_17, ↓v138_18, ↓v138_19, ↓v138_20, ↓v138_21, ↓v138_22, ↓v138_23, ↓v138_25, ↓v138_28, ↓v138_29, ↓v138_30, ↓v138_33, ↓v138_34, ↓v138_37, ↓v138_40, ↓v138_41, ↓v138_44, ↓v138_45, ↓v138_46, ↓v138_49, ↓v138_52, ↓v138_55, ↓v138_56, ↓qI_c, ↓qL_c, ↓qR_c, ↓pA_o, ↓qC_i, ↓qC_r, ↓oA_s, ↓gI_0, ↓gI_1, ↓gI_2, ↓gI_3, ↓gI_4, ↓gI_5, ↓gI_6, ↓gI_7, ↓gI_8, ↓gI_9, ↓gI_10, ↓gR_0, ↓gR_1, ↓gR_2, ↓gR_3, ↓gR_4, ↓gR_5, ↓gR_6, ↓gR_7, ↓gR_8, ↓gR_9, ↓gR_10, ↓sL_0, ↓sL_1, ↓sL_2, ↓sL_3, ↓sL_4, ↓sL_5, ↓sL_6, ↓sL_7, ↓sL_8, ↓sL_9, ↓sL_10, ↓rrf_si, ↓rrf_sg, ↓shO_si, ↓shO_sg, ↓shO_sr, ↓shA_si, ↓shA_sg, ↓shA_sr, ↓pAs_0, ↓pAs_i, ↓pAs_r, stk_n, stk_i, stk_l, stk_r, List.nil_append, List.cons_append, true_and, and_true, true_or, or_true, Nat.zero_add, dp_s, Nat.reduceAdd, le8_0, le8_1, le8_2, le8_3, le8_4, le8_5, le8_6, le8_7, le8_8, Classical.not_not, aT40, aT41, aT42, aT44, aT54, aT58, aT59, rT54, rT58, rT59, reduceIte, Nat.reduceEqDiff, qn_42, qn_44, true_implies, not_true_eq_false, not_false_eq_true, false_implies, hM1, ↓shO_of hs.1.1, h5, i00, le_T, lt_T, T_0]
      exact ⟨fun c => by omega, fun _ => hk1⟩
    · rw [if_neg (by rw [ho]; simp; omega)] at hk1
      obtain ⟨n, hn⟩ : ∃ n : Nat, x.toInt = n := ⟨x.toInt.toNat, by omega⟩
      have hxn : x = nI n := (eq_T x (nI n)).mpr (by rw [nT (by have := x.toInt_lt; omega)]; exact hn)
      have hn31 : n < 2147483648 := by have := x.toInt_lt; omega
      subst hxn
      -- left counts down
      have lop : ∀ m i, i + m = 48 → cnt (hasK s.ch s.tb) i ≤ n → k (some (.inl (oI (rpF (hasK s.ch s.tb) (nI n) i m)))) M1 → X (d + 1) 138 22 [some (.inr (some r)), some (.inl (nI n)), some (.inl (nI (n - cnt (hasK s.ch s.tb) i))), some (.inl (nI i))] [] M1 k := by
        intro m
        induction m with
        | zero =>
          intro i hi hc hk
          have e : i = 48 := by omega
          subst e
          refine vc_X 20 _ _ _ _ _ _ _ ?_
          simp only [↓v138_0, ↓v138_1, ↓v138_2, ↓v138_5, ↓v138_6, ↓v138_9, ↓v138_12, ↓v138_13, ↓v138_16, ↓v138_17, ↓v138_18, ↓v138_19, ↓v138_20, ↓v138_21, ↓v138_22, ↓v138_23, ↓v138_25, ↓v138_28, ↓v138_29, ↓v138_30, ↓v138_33, ↓v138_34, ↓v138_37, ↓v138_40, ↓v138_41, ↓v138_44, ↓v138_45, ↓v138_46, ↓v138_49, ↓v138_52, ↓v138_55, ↓v138_56, ↓qI_c, ↓qL_c, ↓qR_c, ↓pA_o, ↓qC_i, ↓qC_r, ↓oA_s, ↓gI_0, ↓gI_1, ↓gI_2, ↓gI_3, ↓gI_4, ↓gI_5, ↓gI_6, ↓gI_7, ↓gI_8, ↓gI_9, ↓gI_10, ↓gR_0, ↓gR_1, ↓gR_2, ↓gR_3, ↓gR_4, ↓gR_5, ↓gR_6, ↓gR_7, ↓gR_8, ↓gR_9, ↓gR_10, ↓sL_0, ↓sL_1, ↓sL_2, ↓sL_3, ↓sL_4, ↓sL_5, ↓sL_6, ↓sL_7, ↓sL_8, ↓sL_9, ↓sL_10, ↓rrf_si, ↓rrf_sg, ↓shO_si, ↓shO_sg, ↓shO_sr, ↓shA_si, ↓shA_sg, ↓shA_sr, ↓pAs_0, ↓pAs_i, ↓pAs_r, stk_n, stk_i, stk_l, stk_r, List.nil_append, List.cons_append, true_and, and_true, true_or, or_true, Nat.zero_add, dp_s, Nat.reduceAdd, le8_0, le8_1, le8_2, le8_3, le8_4, le8_5, le8_6, le8_7, le8_8, Classical.not_not, aT40, aT41, aT42, aT44, aT54, aT58, aT59, rT54, rT58, rT59, reduceIte, Nat.reduceEqDiff, qn_42, qn_44, true_implies, not_true_eq_false, not_false_eq_true, false_implies, le_T, T_48, nT (show 48 < 2147483648 by omega)]
          exact ⟨fun _ => hk, fun c => absurd (by decide) c⟩
        | succ m ih =>
          intro i hi hc hk
          have hs1 := h1.1
          have ih1 := ih (i + 1) (by omega)
          have e1 : cnt (hasK s.ch s.tb) (i + 1) = cnt (hasK s.ch s.tb) i + (if hasK s.ch s.tb i then 1 else 0) := rfl
          have e2 : rpF (hasK s.ch s.tb) (nI n) i (m + 1) = if (hasK s.ch s.tb i && decide (nI (cnt (hasK s.ch s.tb) i) = nI n)) then some i else rpF (hasK s.ch s.tb) (nI n) (i + 1) m := rfl
          rw [e1] at ih1
          rw [e2] at hk
          have hcl := cnt_le (hasK s.ch s.tb) i
          refine vc_X 20 _ _ _ _ _ _ _ ?_
          simp only [↓v138_0, ↓v138_1, ↓v138_2, ↓v138_5, ↓v138_6, ↓v138_9, ↓v138_12, ↓v138_13, ↓v138_16, ↓v138_17, ↓v138_18, ↓v138_19, ↓v138_20, ↓v138_21, ↓v138_22, ↓v138_23, ↓v138_25, ↓v138_28, ↓v138_29, ↓v138_30, ↓v138_33, ↓v138_34, ↓v138_37, ↓v138_40, ↓v138_41, ↓v138_44, ↓v138_45, ↓v138_46, ↓v138_49, ↓v138_52, ↓v138_55, ↓v138_56, ↓qI_c, ↓qL_c, ↓qR_c, ↓pA_o, ↓qC_i, ↓qC_r, ↓oA_s, ↓gI_0, ↓gI_1, ↓gI_2, ↓gI_3, ↓gI_4, ↓gI_5, ↓gI_6, ↓gI_7, ↓gI_8, ↓gI_9, ↓gI_10, ↓gR_0, ↓gR_1, ↓gR_2, ↓gR_3, ↓gR_4, ↓gR_5, ↓gR_6, ↓gR_7, ↓gR_8, ↓gR_9, ↓gR_10, ↓sL_0, ↓sL_1, ↓sL_2, ↓sL_3, ↓sL_4, ↓sL_5, ↓sL_6, ↓sL_7, ↓sL_8, ↓sL_9, ↓sL_10, ↓rrf_si, ↓rrf_sg, ↓shO_si, ↓shO_sg, ↓shO_sr, ↓shA_si, ↓shA_sg, ↓shA_sr, ↓pAs_0, ↓pAs_i, ↓pAs_r, stk_n, stk_i, stk_l, stk_r, List.nil_append, List.cons_append, true_and, and_true, true_or, or_true, Nat.zero_add, dp_s, Nat.reduceAdd, le8_0, le8_1, le8_2, le8_3, le8_4, le8_5, le8_6, le8_7, le8_8, Classical.not_not, aT40, aT41, aT42, aT44, aT54, aT58, aT59, rT54, rT58, rT59, reduceIte, Nat.reduceEqDiff, qn_42, qn_44, true_implies, not_true_eq_false, not_false_eq_true, false_implies, le_T, T_48, nT (show i < 2147483648 by omega), ↓shO_of hs1.1.1]
          refine ⟨fun c => by omega, fun _ => f129 h1 (by omega) ⟨_, rfl, ?_⟩⟩
          cases hp : plO s.ch s.tb (some i) with
          | none =>
            have hf : hasK s.ch s.tb i = false := by unfold hasK; rw [hp]; rfl
            rw [hf] at ih1 hk
            refine vc_X 20 _ _ _ _ _ _ _ ?_
            simp only [↓v138_0, ↓v138_1, ↓v138_2, ↓v138_5, ↓v138_6, ↓v138_9, ↓v138_12, ↓v138_13, ↓v138_16, ↓v138_17, ↓v138_18, ↓v138_19, ↓v138_20, ↓v138_21, ↓v138_22, ↓v138_23, ↓v138_25, ↓v138_28, ↓v138_29, ↓v138_30, ↓v138_33, ↓v138_34, ↓v138_37, ↓v138_40, ↓v138_41, ↓v138_44, ↓v138_45, ↓v138_46, ↓v138_49, ↓v138_52, ↓v138_55, ↓v138_56, ↓qI_c, ↓qL_c, ↓qR_c, ↓pA_o, ↓qC_i, ↓qC_r, ↓oA_s, ↓gI_0, ↓gI_1, ↓gI_2, ↓gI_3, ↓gI_4, ↓gI_5, ↓gI_6, ↓gI_7, ↓gI_8, ↓gI_9, ↓gI_10, ↓gR_0, ↓gR_1, ↓gR_2, ↓gR_3, ↓gR_4, ↓gR_5, ↓gR_6, ↓gR_7, ↓gR_8, ↓gR_9, ↓gR_10, ↓sL_0, ↓sL_1, ↓sL_2, ↓sL_3, ↓sL_4, ↓sL_5, ↓sL_6, ↓sL_7, ↓sL_8, ↓sL_9, ↓sL_10, ↓rrf_si, ↓rrf_sg, ↓shO_si, ↓shO_sg, ↓shO_sr, ↓shA_si, ↓shA_sg, ↓shA_sr, ↓pAs_0, ↓pAs_i, ↓pAs_r, stk_n, stk_i, stk_l, stk_r, List.nil_append, List.cons_append, true_and, and_true, true_or, or_true, Nat.zero_add, dp_s, Nat.reduceAdd, le8_0, le8_1, le8_2, le8_3, le8_4, le8_5, le8_6, le8_7, le8_8, Classical.not_not, aT40, aT41, aT42, aT44, aT54, aT58, aT59, rT54, rT58, rT59, reduceIte, Nat.reduceEqDiff, qn_42, qn_44, true_implies, not_true_eq_false, not_false_eq_true, false_implies, oI_none, m11, nI_1]
            exact ih1 hc hk
          | some v =>
            have ht : hasK s.ch s.tb i = true := by unfold hasK; rw [hp]; rfl
            have hv := h1.pl (show i < 48 by omega) hp
            rw [ht] at ih1 hk
            have e3 : oI (some v) = nI v := rfl
            have e4 : (nI (n - cnt (hasK s.ch s.tb) i) = 0) ↔ n - cnt (hasK s.ch s.tb) i = 0 := by rw [n_0]; exact nI_eq (by omega) (by omega)
            refine vc_X 20 _ _ _ _ _ _ _ ?_
            simp only [↓v138_0, ↓v138_1, ↓v138_2, ↓v138_5, ↓v138_6, ↓v138_9, ↓v138_12, ↓v138_13, ↓v138_16, ↓v138_17, ↓v138_18, ↓v138_19, ↓v138_20, ↓v138_21, ↓v138_22, ↓v138_23, ↓v138_25, ↓v138_28, ↓v138_29, ↓v138_30, ↓v138_33, ↓v138_34, ↓v138_37, ↓v138_40, ↓v138_41, ↓v138_44, ↓v138_45, ↓v138_46, ↓v138_49, ↓v138_52, ↓v138_55, ↓v138_56, ↓qI_c, ↓qL_c, ↓qR_c, ↓pA_o, ↓qC_i, ↓qC_r, ↓oA_s, ↓gI_0, ↓gI_1, ↓gI_2, ↓gI_3, ↓gI_4, ↓gI_5, ↓gI_6, ↓gI_7, ↓gI_8, ↓gI_9, ↓gI_10, ↓gR_0, ↓gR_1, ↓gR_2, ↓gR_3, ↓gR_4, ↓gR_5, ↓gR_6, ↓gR_7, ↓gR_8, ↓gR_9, ↓gR_10, ↓sL_0, ↓sL_1, ↓sL_2, ↓sL_3, ↓sL_4, ↓sL_5, ↓sL_6, ↓sL_7, ↓sL_8, ↓sL_9, ↓sL_10, ↓rrf_si, ↓rrf_sg, ↓shO_si, ↓shO_sg, ↓shO_sr, ↓shA_si, ↓shA_sg, ↓shA_sr, ↓pAs_0, ↓pAs_i, ↓pAs_r, stk_n, stk_i, stk_l, stk_r, List.nil_append, List.cons_append, true_and, and_true, true_or, or_true, Nat.zero_add, dp_s, Nat.reduceAdd, le8_0, le8_1, le8_2, le8_3, le8_4, le8_5, le8_6, le8_7, le8_8, Classical.not_not, aT40, aT41, aT42, aT44, aT54, aT58, aT59, rT54, rT58, rT59, reduceIte, Nat.reduceEqDiff, qn_42, qn_44, true_implies, not_true_eq_false, not_false_eq_true, false_implies, e3, nI_nm (show v < 2147483648 by omega) (show ((-1 : Int32)).toInt < 0 by decide), e4, nI_1]
            refine ⟨fun c => ?_, fun c => ?_⟩
            · have hd : decide (nI (cnt (hasK s.ch s.tb) i) = nI n) = false := decide_eq_false (fun q => by rw [nI_eq (by omega) (by omega)] at q; omega)
              rw [hd] at hk
              have e5 : nI (n - cnt (hasK s.ch s.tb) i) + -1 = nI (n - (cnt (hasK s.ch s.tb) i + 1)) := by
                rw [show n - cnt (hasK s.ch s.tb) i = n - (cnt (hasK s.ch s.tb) i + 1) + 1 by omega]
                exact pk_m1 _
              rw [e5]
              exact ih1 (by show cnt (hasK s.ch s.tb) i + 1 ≤ n; omega) hk
            · have e6 : cnt (hasK s.ch s.tb) i = n := by omega
              have hd : decide (nI (cnt (hasK s.ch s.tb) i) = nI n) = true := decide_eq_true (by rw [e6])
              rw [hd] at hk
              exact hk
      refine vc_X 20 _ _ _ _ _ _ _ ?_
      simp only [↓v138_0, ↓v138_1, ↓v138_2, ↓v138_5, ↓v138_6, ↓v138_9, ↓v138_12, ↓v138_13, ↓v138_16, ↓v138_17, ↓v138_18, ↓v138_19, ↓v138_20, ↓v138_21, ↓v138_22, ↓v138_23, ↓v138_25, ↓v138_28, ↓v138_29, ↓v138_30, ↓v138_33, ↓v138_34, ↓v138_37, ↓v138_40, ↓v138_41, ↓v138_44, ↓v138_45, ↓v138_46, ↓v138_49, ↓v138_52, ↓v138_55, ↓v138_56, ↓qI_c, ↓qL_c, ↓qR_c, ↓pA_o, ↓qC_i, ↓qC_r, ↓oA_s, ↓gI_0, ↓gI_1, ↓gI_2, ↓gI_3, ↓gI_4, ↓gI_5, ↓gI_6, ↓gI_7, ↓gI_8, ↓gI_9, ↓gI_10, ↓gR_0, ↓gR_1, ↓gR_2, ↓gR_3, ↓gR_4, ↓gR_5, ↓gR_6, ↓gR_7, ↓gR_8, ↓gR_9, ↓gR_10, ↓sL_0, ↓sL_1, ↓sL_2, ↓sL_3, ↓sL_4, ↓sL_5, ↓sL_6, ↓sL_7, ↓sL_8, ↓sL_9, ↓sL_10, ↓rrf_si, ↓rrf_sg, ↓shO_si, ↓shO_sg, ↓shO_sr, ↓shA_si, ↓shA_sg, ↓shA_sr, ↓pAs_0, ↓pAs_i, ↓pAs_r, stk_n, stk_i, stk_l, stk_r, List.nil_append, List.cons_append, true_and, and_true, true_or, or_true, Nat.zero_add, dp_s, Nat.reduceAdd, le8_0, le8_1, le8_2, le8_3, le8_4, le8_5, le8_6, le8_7, le8_8, Classical.not_not, aT40, aT41, aT42, aT44, aT54, aT58, aT59, rT54, rT58, rT59, reduceIte, Nat.reduceEqDiff, qn_42, qn_44, true_implies, not_true_eq_false, not_false_eq_true, false_implies, hM1, ↓shO_of hs.1.1, h5, i00, le_T, lt_T, T_0]
      refine ⟨fun _ => ?_, fun c => absurd c (by omega)⟩
      exact lop 48 0 (by omega) (Nat.zero_le _) hk1
theorem slot_at {M : Mm} {r : Nat} {s : Ms} (h : RSl M r s) : RcP M (r + 3) (18 * slL s.s0 s.s1) (latR s.s0 s.s1) := by
  obtain ⟨h0, h1⟩ := h
  unfold slL latR
  cases hs : s.s1 with
  | none => exact h0
  | some q =>
    rw [hs] at h1
    show RcP M (r + 3) (18 * (if s.s0.1 < q.1 then 1 else 0)) (if s.s0.1 < q.1 then q else s.s0)
    split
    · exact h1
    · exact h0
theorem slL_le (s0 : RecT) (s1 : Option RecT) : slL s0 s1 ≤ 1 := by
  unfold slL
  split
  · split <;> omega
  · omega
theorem f149 {d c : Nat} {M : Mm} {k : mQ} {r : Nat} {s : Ms} (h : RP M r s) (hi : IvS c s) (hc : c ≤ 512) (hk : k (some (.inl (nI (slL s.s0 s.s1)))) M) : XC (d + 1) 149 [.inr (some r)] M k := by
  have b0 := hi.2.2.2.1.2.1.1
  refine e149 h.1 h.2.2.1.2.2.1 (by omega) (fun q hq => ?_) hk
  have := (hi.2.2.2.1.2.2.1 q hq).1
  omega
theorem R_le {c : Nat} {s : Ms} (hi : IvS c s) : RB c s.R := by
  obtain ⟨b1, b2, b3, b4⟩ := hi.2.2.2.1
  show RB _ (latR s.s0 s.s1)
  unfold latR
  cases hs : s.s1 with
  | none => exact b2
  | some q =>
    show RB _ (if s.s0.1 < q.1 then q else s.s0)
    split
    · exact b3 q hs
    · exact b2
theorem d148 {d c : Nat} {M : Mm} {k : mQ} {r : Nat} {s : Ms} {x : Int32} (h : RP M r s) (hi : IvS c s) (hc : c ≤ 512) (hk : ∀ M', RP M' r s → Rr r M M' → k (some (.inl (mPoll x s).1)) M') : XC (d + 2) 148 [.inr (some r), .inl x] M k := by
  obtain ⟨h1, o1⟩ := h.th
  have hk1 := hk _ h1 (o1.rr (fun _ q => q.elim))
  clear hk
  generalize hM1 : M.si r 0 0 = M1 at h1 o1 hk1
  have hs := h.1
  have hs1 := h1.1
  have h13 : M1.it r 13 = nI s.mu := h1.2.1.1.2.2.2.2.2.2
  have hm : s.mu ≤ c := hi.2.2.1.2.2.2.1
  refine xc ?_
  show X (d + 1) 148 0 [some (.inr (some r)), some (.inl x)] [] M k
  unfold mPoll at hk1
  by_cases c1 : x.toInt < 1 ∨ (s.mu : Int) < x.toInt
  · rw [if_pos c1] at hk1
    refine vc_X 40 _ _ _ _ _ _ _ ?_
    simp only [↓v148_0, ↓v148_1, ↓v148_2, ↓v148_5, ↓v148_6, ↓v148_7, ↓v148_10, ↓v148_11, ↓v148_12, ↓v148_15, ↓v148_18, ↓v148_19, ↓v148_20, ↓v148_21, ↓v148_24, ↓v148_25, ↓v148_26, ↓v148_29, ↓v148_30, ↓v148_33, ↓v148_34, ↓v148_37, ↓v148_39, ↓v148_40, ↓v148_43, ↓v148_44, ↓v148_45, ↓v148_46, ↓v148_47, ↓v148_48, ↓v148_51, ↓v148_52, ↓v148_55, ↓v148_56, ↓qI_c, ↓qL_c, ↓qR_c, ↓pA_o, ↓qC_i, ↓qC_r, ↓oA_s, ↓gI_0, ↓gI_1, ↓gI_2, ↓gI_3, ↓gI_4, ↓gI_5, ↓gI_6, ↓gI_7, ↓gI_8, ↓gI_9, ↓gI_10, ↓gR_0, ↓gR_1, ↓gR_2, ↓gR_3, ↓gR_4, ↓gR_5, ↓gR_6, ↓gR_7, ↓gR_8, ↓gR_9, ↓gR_10, ↓sL_0, ↓sL_1, ↓sL_2, ↓sL_3, ↓sL_4, ↓sL_5, ↓sL_6, ↓sL_7, ↓sL_8, ↓sL_9, ↓sL_10, ↓rrf_si, ↓rrf_sg, ↓shO_si, ↓shO_sg, ↓shO_sr, ↓shA_si, ↓shA_sg, ↓shA_sr, ↓pAs_0, ↓pAs_i, ↓pAs_r, stk_n, stk_i, stk_l, stk_r, List.nil_append, List.cons_append, true_and, and_true, true_or, or_true, Nat.zero_add, dp_s, Nat.reduceAdd, le8_0, le8_1, le8_2, le8_3, le8_4, le8_5, le8_6, le8_7, le8_8, Classical.not_not, aT40, aT41, aT42, aT44, aT54, aT58, aT59, rT54, rT58, rT59, reduceIte, Nat.reduceEqDiff, qn_42, qn_44, true_implies, not_true_eq_false, not_false_eq_true, false_implies, hM1, ↓shO_of hs.1.1, lt_T, le_T, T_1, h13, nT (show s.mu < 2147483648 by omega)]
    exact ⟨fun _ => hk1, fun c2 => ⟨fun c3 => absurd c1 (by omega), fun _ => hk1⟩⟩
  · rw [if_neg c1] at hk1
    obtain ⟨j, hj, rfl⟩ := inB_of (x := x) (n := 513) ⟨by omega, by omega⟩ (by omega)
    rw [nT (by omega)] at c1
    rw [nT (by omega), Int.toNat_natCast] at hk1
    have hlo : M1.it (r + 16) j = bI (s.lo j) := h1.2.2.2.2.1.1 j hj
    cases hl : s.lo j with
    | true =>
      rw [hl, bI_t] at hlo
      rw [if_pos hl] at hk1
      refine vc_X 40 _ _ _ _ _ _ _ ?_
      simp only [↓v148_0, ↓v148_1, ↓v148_2, ↓v148_5, ↓v148_6, ↓v148_7, ↓v148_10, ↓v148_11, ↓v148_12, ↓v148_15, ↓v148_18, ↓v148_19, ↓v148_20, ↓v148_21, ↓v148_24, ↓v148_25, ↓v148_26, ↓v148_29, ↓v148_30, ↓v148_33, ↓v148_34, ↓v148_37, ↓v148_39, ↓v148_40, ↓v148_43, ↓v148_44, ↓v148_45, ↓v148_46, ↓v148_47, ↓v148_48, ↓v148_51, ↓v148_52, ↓v148_55, ↓v148_56, ↓qI_c, ↓qL_c, ↓qR_c, ↓pA_o, ↓qC_i, ↓qC_r, ↓oA_s, ↓gI_0, ↓gI_1, ↓gI_2, ↓gI_3, ↓gI_4, ↓gI_5, ↓gI_6, ↓gI_7, ↓gI_8, ↓gI_9, ↓gI_10, ↓gR_0, ↓gR_1, ↓gR_2, ↓gR_3, ↓gR_4, ↓gR_5, ↓gR_6, ↓gR_7, ↓gR_8, ↓gR_9, ↓gR_10, ↓sL_0, ↓sL_1, ↓sL_2, ↓sL_3, ↓sL_4, ↓sL_5, ↓sL_6, ↓sL_7, ↓sL_8, ↓sL_9, ↓sL_10, ↓rrf_si, ↓rrf_sg, ↓shO_si, ↓shO_sg, ↓shO_sr, ↓shA_si, ↓shA_sg, ↓shA_sr, ↓pAs_0, ↓pAs_i, ↓pAs_r, stk_n, stk_i, stk_l, stk_r, List.nil_append, List.cons_append, true_and, and_true, true_or, or_true, Nat.zero_add, dp_s, Nat.reduceAdd, le8_0, le8_1, le8_2, le8_3, le8_4, le8_5, le8_6, le8_7, le8_8, Classical.not_not, aT40, aT41, aT42, aT44, aT54, aT58, aT59, rT54, rT58, rT59, reduceIte, Nat.reduceEqDiff, qn_42, qn_44, true_implies, not_true_eq_false, not_false_eq_true, false_implies, hM1, ↓shO_of hs.1.1, lt_T, le_T, T_1, h13, nT (show s.mu < 2147483648 by omega), nT (show j < 2147483648 by omega), ↓rrf_of hs.2.2.1.2.1, ↓shA_of hs.2.2.2.2.1.2.2.2.2.2.2.2, nC (show j < 2147483648 by omega), hlo, i10]
      exact ⟨fun c => by omega, fun _ => ⟨fun _ => ⟨inB_n (by omega) (by omega), hk1⟩, fun c => by omega⟩⟩
    | false =>
      rw [hl, bI_f] at hlo
      rw [if_neg (by rw [hl]; decide)] at hk1
      have sa := slot_at h1.2.2.1.2.2.1
      have sl := slL_le s.s0 s.s1
      have hRb := R_le hi
      have e1 : M1.it (r + 3) (18 * slL s.s0 s.s1 + 1) = nI s.R.2.1 := sa.2.1
      have e2 : (18 : Int32) * nI (slL s.s0 s.s1) + 1 = nI (18 * slL s.s0 s.s1 + 1) := by rw [n_18, pk_mul, n_1, nI_add]
      refine vc_X 40 _ _ _ _ _ _ _ ?_
      simp only [↓v148_0, ↓v148_1, ↓v148_2, ↓v148_5, ↓v148_6, ↓v148_7, ↓v148_10, ↓v148_11, ↓v148_12, ↓v148_15, ↓v148_18, ↓v148_19, ↓v148_20, ↓v148_21, ↓v148_24, ↓v148_25, ↓v148_26, ↓v148_29, ↓v148_30, ↓v148_33, ↓v148_34, ↓v148_37, ↓v148_39, ↓v148_40, ↓v148_43, ↓v148_44, ↓v148_45, ↓v148_46, ↓v148_47, ↓v148_48, ↓v148_51, ↓v148_52, ↓v148_55, ↓v148_56, ↓qI_c, ↓qL_c, ↓qR_c, ↓pA_o, ↓qC_i, ↓qC_r, ↓oA_s, ↓gI_0, ↓gI_1, ↓gI_2, ↓gI_3, ↓gI_4, ↓gI_5, ↓gI_6, ↓gI_7, ↓gI_8, ↓gI_9, ↓gI_10, ↓gR_0, ↓gR_1, ↓gR_2, ↓gR_3, ↓gR_4, ↓gR_5, ↓gR_6, ↓gR_7, ↓gR_8, ↓gR_9, ↓gR_10, ↓sL_0, ↓sL_1, ↓sL_2, ↓sL_3, ↓sL_4, ↓sL_5, ↓sL_6, ↓sL_7, ↓sL_8, ↓sL_9, ↓sL_10, ↓rrf_si, ↓rrf_sg, ↓shO_si, ↓shO_sg, ↓shO_sr, ↓shA_si, ↓shA_sg, ↓shA_sr, ↓pAs_0, ↓pAs_i, ↓pAs_r, stk_n, stk_i, stk_l, stk_r, List.nil_append, List.cons_append, true_and, and_true, true_or, or_true, Nat.zero_add, dp_s, Nat.reduceAdd, le8_0, le8_1, le8_2, le8_3, le8_4, le8_5, le8_6, le8_7, le8_8, Classical.not_not, aT40, aT41, aT42, aT44, aT54, aT58, aT59, rT54, rT58, rT59, reduceIte, Nat.reduceEqDiff, qn_42, qn_44, true_implies, not_true_eq_false, not_false_eq_true, false_implies, hM1, ↓shO_of hs.1.1, lt_T, le_T, T_1, h13, nT (show s.mu < 2147483648 by omega), nT (show j < 2147483648 by omega), ↓rrf_of hs.2.2.1.2.1, ↓shA_of hs.2.2.2.2.1.2.2.2.2.2.2.2, nC (show j < 2147483648 by omega), hlo, i00, ↓rrf_of hs.1.2.2.2.1, ↓shO_of hs1.1.1]
      refine ⟨fun c => by omega, fun _ => ⟨fun _ => ⟨inB_n (by omega) (by omega), f149 h1 hi hc ⟨_, rfl, ?_⟩⟩, fun c => by omega⟩⟩
      refine vc_X 20 _ _ _ _ _ _ _ ?_
      simp only [↓v148_0, ↓v148_1, ↓v148_2, ↓v148_5, ↓v148_6, ↓v148_7, ↓v148_10, ↓v148_11, ↓v148_12, ↓v148_15, ↓v148_18, ↓v148_19, ↓v148_20, ↓v148_21, ↓v148_24, ↓v148_25, ↓v148_26, ↓v148_29, ↓v148_30, ↓v148_33, ↓v148_34, ↓v148_37, ↓v148_39, ↓v148_40, ↓v148_43, ↓v148_44, ↓v148_45, ↓v148_46, ↓v148_47, ↓v148_48, ↓v148_51, ↓v148_52, ↓v148_55, ↓v148_56, ↓qI_c, ↓qL_c, ↓qR_c, ↓pA_o, ↓qC_i, ↓qC_r, ↓oA_s, ↓gI_0, ↓gI_1, ↓gI_2, ↓gI_3, ↓gI_4, ↓gI_5, ↓gI_6, ↓gI_7, ↓gI_8, ↓gI_9, ↓gI_10, ↓gR_0, ↓gR_1, ↓gR_2, ↓gR_3, ↓gR_4, ↓gR_5, ↓gR_6, ↓gR_7, ↓gR_8, ↓gR_9, ↓gR_10, ↓sL_0, ↓sL_1, ↓sL_2, ↓sL_3, ↓sL_4, ↓sL_5, ↓sL_6, ↓sL_7, ↓sL_8, ↓sL_9, ↓sL_10, ↓rrf_si, ↓rrf_sg, ↓shO_si, ↓shO_sg, ↓shO_sr, ↓shA_si, ↓shA_sg, ↓shA_sr, ↓pAs_0, ↓pAs_i, ↓pAs_r, stk_n, stk_i, stk_l, stk_r, List.nil_append, List.cons_append, true_and, and_true, true_or, or_true, Nat.zero_add, dp_s, Nat.reduceAdd, le8_0, le8_1, le8_2, le8_3, le8_4, le8_5, le8_6, le8_7, le8_8, Classical.not_not, aT40, aT41, aT42, aT44, aT54, aT58, aT59, rT54, rT58, rT59, reduceIte, Nat.reduceEqDiff, qn_42, qn_44, true_implies, not_true_eq_false, not_false_eq_true, false_implies, e2, ↓shA_of hs1.2.2.2.1.2.2.1, nC (show 18 * slL s.s0 s.s1 + 1 < 2147483648 by omega), e1, lt_T, nT (show s.R.2.1 < 2147483648 by have := hRb.2.1; omega), nT (show j < 2147483648 by omega)]
      refine ⟨inB_n (by omega) (by omega), fun c => ?_, fun c => ?_⟩
      · rw [if_neg (by omega)] at hk1
        exact hk1
      · rw [if_pos (by omega)] at hk1
        exact hk1
theorem d160 {d : Nat} {M : Mm} {k : mQ} {r : Nat} {s : Ms} {e q i : Int32} (h : RP M r s) (hk : ∀ M', RP M' r s → Rr r M M' → k (some (.inl (mDis e q i s).1)) M') : XC (d + 1) 160 [.inr (some r), .inl e, .inl q, .inl i] M k := by
  obtain ⟨h1, o1⟩ := h.th
  have hk1 := hk _ h1 (o1.rr (fun _ q => q.elim))
  clear hk
  generalize hM1 : M.si r 0 0 = M1 at h1 o1 hk1
  have hs := h.1
  refine xc ?_
  show X d 160 0 [some (.inr (some r)), some (.inl e), some (.inl q), some (.inl i)] [] M k
  unfold mDis at hk1
  by_cases c1 : inB e 8 ∧ inB q 16 ∧ inB i 16
  · obtain ⟨ce, cq, ci⟩ := c1
    obtain ⟨e', he, rfl⟩ := inB_of ce (by omega)
    obtain ⟨q', hq, rfl⟩ := inB_of cq (by omega)
    obtain ⟨i', hi, rfl⟩ := inB_of ci (by omega)
    rw [idx_of he (by omega), idx_of hq (by omega), idx_of hi (by omega)] at hk1
    have hv := h1.2.2.1.2.1 (16 * e' + q') i' (by omega) hi
    have e3 : (16 : Int32) * (16 * nI e' + nI q') + nI i' = nI (16 * (16 * e' + q') + i') := by rw [n_16, pk_mul, nI_add, pk_mul, nI_add]
    refine vc_X 40 _ _ _ _ _ _ _ ?_
    simp only [↓v160_0, ↓v160_1, ↓v160_2, ↓v160_5, ↓v160_6, ↓v160_9, ↓v160_10, ↓v160_12, ↓v160_15, ↓v160_16, ↓v160_19, ↓v160_20, ↓v160_22, ↓v160_25, ↓v160_26, ↓v160_29, ↓v160_30, ↓v160_32, ↓v160_35, ↓v160_36, ↓v160_37, ↓v160_38, ↓v160_41, ↓v160_43, ↓v160_45, ↓v160_46, ↓v160_47, ↓v160_48, ↓v160_49, ↓v160_50, ↓v160_51, ↓v160_52, ↓v160_53, ↓v160_56, ↓v160_57, ↓qI_c, ↓qL_c, ↓qR_c, ↓pA_o, ↓qC_i, ↓qC_r, ↓oA_s, ↓gI_0, ↓gI_1, ↓gI_2, ↓gI_3, ↓gI_4, ↓gI_5, ↓gI_6, ↓gI_7, ↓gI_8, ↓gI_9, ↓gI_10, ↓gR_0, ↓gR_1, ↓gR_2, ↓gR_3, ↓gR_4, ↓gR_5, ↓gR_6, ↓gR_7, ↓gR_8, ↓gR_9, ↓gR_10, ↓sL_0, ↓sL_1, ↓sL_2, ↓sL_3, ↓sL_4, ↓sL_5, ↓sL_6, ↓sL_7, ↓sL_8, ↓sL_9, ↓sL_10, ↓rrf_si, ↓rrf_sg, ↓shO_si, ↓shO_sg, ↓shO_sr, ↓shA_si, ↓shA_sg, ↓shA_sr, ↓pAs_0, ↓pAs_i, ↓pAs_r, stk_n, stk_i, stk_l, stk_r, List.nil_append, List.cons_append, true_and, and_true, true_or, or_true, Nat.zero_add, dp_s, Nat.reduceAdd, le8_0, le8_1, le8_2, le8_3, le8_4, le8_5, le8_6, le8_7, le8_8, Classical.not_not, aT40, aT41, aT42, aT44, aT54, aT58, aT59, rT54, rT58, rT59, reduceIte, Nat.reduceEqDiff, qn_42, qn_44, true_implies, not_true_eq_false, not_false_eq_true, false_implies, hM1, ↓shO_of hs.1.1, lt_T, le_T, T_0, T_8, T_16, nT (show e' < 2147483648 by omega), nT (show q' < 2147483648 by omega), nT (show i' < 2147483648 by omega), ↓rrf_of hs.1.2.2.1, ↓shA_of hs.2.2.2.1.2.1, e3, nC (show 16 * (16 * e' + q') + i' < 2147483648 by omega), hv]
    exact ⟨fun c => by omega, fun _ => ⟨fun c => by omega, fun _ => ⟨fun c => by omega, fun _ => ⟨fun c => by omega, fun _ => ⟨fun c => by omega, fun _ => ⟨fun _ => ⟨inB_n (by omega) (by omega), hk1⟩, fun c => by omega⟩⟩⟩⟩⟩⟩
  · have hn : k (some (.inl (-1))) M1 := by
      cases h1 : idx e 8 with
      | none => rw [h1] at hk1; exact hk1
      | some e' =>
        cases h2 : idx q 16 with
        | none => rw [h1, h2] at hk1; exact hk1
        | some q' =>
          cases h3 : idx i 16 with
          | none => rw [h1, h2, h3] at hk1; exact hk1
          | some i' =>
            obtain ⟨r1, r2⟩ := idx_n h1
            obtain ⟨r3, r4⟩ := idx_n h2
            obtain ⟨r5, r6⟩ := idx_n h3
            exact absurd ⟨by rw [r1]; exact inB_n r2 (by omega), by rw [r3]; exact inB_n r4 (by omega), by rw [r5]; exact inB_n r6 (by omega)⟩ c1
    unfold inB at c1
    refine vc_X 40 _ _ _ _ _ _ _ ?_
    simp only [↓v160_0, ↓v160_1, ↓v160_2, ↓v160_5, ↓v160_6, ↓v160_9, ↓v160_10, ↓v160_12, ↓v160_15, ↓v160_16, ↓v160_19, ↓v160_20, ↓v160_22, ↓v160_25, ↓v160_26, ↓v160_29, ↓v160_30, ↓v160_32, ↓v160_35, ↓v160_36, ↓v160_37, ↓v160_38, ↓v160_41, ↓v160_43, ↓v160_45, ↓v160_46, ↓v160_47, ↓v160_48, ↓v160_49, ↓v160_50, ↓v160_51, ↓v160_52, ↓v160_53, ↓v160_56, ↓v160_57, ↓qI_c, ↓qL_c, ↓qR_c, ↓pA_o, ↓qC_i, ↓qC_r, ↓oA_s, ↓gI_0, ↓gI_1, ↓gI_2, ↓gI_3, ↓gI_4, ↓gI_5, ↓gI_6, ↓gI_7, ↓gI_8, ↓gI_9, ↓gI_10, ↓gR_0, ↓gR_1, ↓gR_2, ↓gR_3, ↓gR_4, ↓gR_5, ↓gR_6, ↓gR_7, ↓gR_8, ↓gR_9, ↓gR_10, ↓sL_0, ↓sL_1, ↓sL_2, ↓sL_3, ↓sL_4, ↓sL_5, ↓sL_6, ↓sL_7, ↓sL_8, ↓sL_9, ↓sL_10, ↓rrf_si, ↓rrf_sg, ↓shO_si, ↓shO_sg, ↓shO_sr, ↓shA_si, ↓shA_sg, ↓shA_sr, ↓pAs_0, ↓pAs_i, ↓pAs_r, stk_n, stk_i, stk_l, stk_r, List.nil_append, List.cons_append, true_and, and_true, true_or, or_true, Nat.zero_add, dp_s, Nat.reduceAdd, le8_0, le8_1, le8_2, le8_3, le8_4, le8_5, le8_6, le8_7, le8_8, Classical.not_not, aT40, aT41, aT42, aT44, aT54, aT58, aT59, rT54, rT58, rT59, reduceIte, Nat.reduceEqDiff, qn_42, qn_44, true_implies, not_true_eq_false, not_false_eq_true, false_implies, hM1, ↓shO_of hs.1.1, lt_T, le_T, T_0, T_8, T_16]
    exact ⟨fun _ => hn, fun a1 => ⟨fun _ => hn, fun a2 => ⟨fun _ => hn, fun a3 => ⟨fun _ => hn, fun a4 => ⟨fun _ => hn, fun a5 => ⟨fun a6 => absurd ⟨⟨by omega, by omega⟩, ⟨by omega, by omega⟩, by omega, by omega⟩ c1, fun _ => hn⟩⟩⟩⟩⟩⟩
theorem d158 {d c : Nat} {M : Mm} {k : mQ} {r : Nat} {s : Ms} {x y : Int32} (h : RP M r s) (hi : IvS c s) (hk : ∀ M', RP M' r s → Rr r M M' → k (some (.inl (mWai x y s).1)) M') : XC (d + 3) 158 [.inr (some r), .inl x, .inl y] M k := by
  obtain ⟨h1, o1⟩ := h.th
  have hk1 := hk _ h1 (o1.rr (fun _ q => q.elim))
  clear hk
  generalize hM1 : M.si r 0 0 = M1 at h1 o1 hk1
  have hs := h.1
  have hs1 := h1.1
  have hl : s.ws.length ≤ 120 := hi.2.2.1.1
  have h14 : M1.it r 14 = nI s.ws.length := h1.2.1.2.1
  refine xc ?_
  show X (d + 2) 158 0 [some (.inr (some r)), some (.inl x), some (.inl y)] [] M k
  unfold mWai at hk1
  cases he : idx x s.ws.length with
  | none =>
    rw [he] at hk1
    have := idx_no he
    unfold inB at this
    refine vc_X 20 _ _ _ _ _ _ _ ?_
    simp only [↓v158_0, ↓v158_1, ↓v158_2, ↓v158_5, ↓v158_6, ↓v158_9, ↓v158_10, ↓v158_11, ↓v158_14, ↓v158_17, ↓v158_18, ↓v158_19, ↓v158_20, ↓v158_23, ↓v158_24, ↓v158_27, ↓v158_28, ↓v158_29, ↓v158_32, ↓v158_33, ↓v158_34, ↓v158_37, ↓v158_38, ↓v158_41, ↓v158_42, ↓v158_43, ↓v158_46, ↓v158_47, ↓v158_48, ↓v158_51, ↓v158_52, ↓v158_53, ↓v158_56, ↓v158_59, ↓v158_60, ↓qI_c, ↓qL_c, ↓qR_c, ↓pA_o, ↓qC_i, ↓qC_r, ↓oA_s, ↓gI_0, ↓gI_1, ↓gI_2, ↓gI_3, ↓gI_4, ↓gI_5, ↓gI_6, ↓gI_7, ↓gI_8, ↓gI_9, ↓gI_10, ↓gR_0, ↓gR_1, ↓gR_2, ↓gR_3, ↓gR_4, ↓gR_5, ↓gR_6, ↓gR_7, ↓gR_8, ↓gR_9, ↓gR_10, ↓sL_0, ↓sL_1, ↓sL_2, ↓sL_3, ↓sL_4, ↓sL_5, ↓sL_6, ↓sL_7, ↓sL_8, ↓sL_9, ↓sL_10, ↓rrf_si, ↓rrf_sg, ↓shO_si, ↓shO_sg, ↓shO_sr, ↓shA_si, ↓shA_sg, ↓shA_sr, ↓pAs_0, ↓pAs_i, ↓pAs_r, stk_n, stk_i, stk_l, stk_r, List.nil_append, List.cons_append, true_and, and_true, true_or, or_true, Nat.zero_add, dp_s, Nat.reduceAdd, le8_0, le8_1, le8_2, le8_3, le8_4, le8_5, le8_6, le8_7, le8_8, Classical.not_not, aT40, aT41, aT42, aT44, aT54, aT58, aT59, rT54, rT58, rT59, reduceIte, Nat.reduceEqDiff, qn_42, qn_44, true_implies, not_true_eq_false, not_false_eq_true, false_implies, hM1, ↓shO_of hs.1.1, lt_T, le_T, T_0, h14, nT (show s.ws.length < 2147483648 by omega)]
    exact ⟨fun _ => hk1, fun c1 => ⟨fun c2 => absurd ⟨by omega, by omega⟩ this, fun _ => hk1⟩⟩
  | some j =>
    rw [he] at hk1
    obtain ⟨rfl, hj⟩ := idx_n he
    have hx : s.ws[j]? = some s.ws[j] := List.getElem?_eq_getElem hj
    have hk1 : k (some (.inl (wai y s.ws s.ws[j]?))) M1 := hk1
    rw [hx] at hk1
    have hk1 : k (some (.inl (if y = 0 then nI s.ws[j].n else if y = 1 then nI s.ws[j].t else if y = 2 then nI (lfM s.ws s.ws[j]) else -1))) M1 := hk1
    obtain ⟨w1, w2, _⟩ := (h1.2.2.2.1.2.2.2 j _ hx).1
    refine vc_X 40 _ _ _ _ _ _ _ ?_
    simp only [↓v158_0, ↓v158_1, ↓v158_2, ↓v158_5, ↓v158_6, ↓v158_9, ↓v158_10, ↓v158_11, ↓v158_14, ↓v158_17, ↓v158_18, ↓v158_19, ↓v158_20, ↓v158_23, ↓v158_24, ↓v158_27, ↓v158_28, ↓v158_29, ↓v158_32, ↓v158_33, ↓v158_34, ↓v158_37, ↓v158_38, ↓v158_41, ↓v158_42, ↓v158_43, ↓v158_46, ↓v158_47, ↓v158_48, ↓v158_51, ↓v158_52, ↓v158_53, ↓v158_56, ↓v158_59, ↓v158_60, ↓qI_c, ↓qL_c, ↓qR_c, ↓pA_o, ↓qC_i, ↓qC_r, ↓oA_s, ↓gI_0, ↓gI_1, ↓gI_2, ↓gI_3, ↓gI_4, ↓gI_5, ↓gI_6, ↓gI_7, ↓gI_8, ↓gI_9, ↓gI_10, ↓gR_0, ↓gR_1, ↓gR_2, ↓gR_3, ↓gR_4, ↓gR_5, ↓gR_6, ↓gR_7, ↓gR_8, ↓gR_9, ↓gR_10, ↓sL_0, ↓sL_1, ↓sL_2, ↓sL_3, ↓sL_4, ↓sL_5, ↓sL_6, ↓sL_7, ↓sL_8, ↓sL_9, ↓sL_10, ↓rrf_si, ↓rrf_sg, ↓shO_si, ↓shO_sg, ↓shO_sr, ↓shA_si, ↓shA_sg, ↓shA_sr, ↓pAs_0, ↓pAs_i, ↓pAs_r, stk_n, stk_i, stk_l, stk_r, List.nil_append, List.cons_append, true_and, and_true, true_or, or_true, Nat.zero_add, dp_s, Nat.reduceAdd, le8_0, le8_1, le8_2, le8_3, le8_4, le8_5, le8_6, le8_7, le8_8, Classical.not_not, aT40, aT41, aT42, aT44, aT54, aT58, aT59, rT54, rT58, rT59, reduceIte, Nat.reduceEqDiff, qn_42, qn_44, true_implies, not_true_eq_false, not_false_eq_true, false_implies, hM1, ↓shO_of hs.1.1, ↓shO_of hs1.1.1, lt_T, le_T, T_0, h14, nT (show s.ws.length < 2147483648 by omega), nT (show j < 2147483648 by omega), ↓rrf_of hs.2.1.2.2.2.1, ↓shA_of hs.2.2.2.2.1.2.1, nC (show j < 2147483648 by omega), w1, ↓rrf_of hs.2.1.2.2.2.2.1, ↓shA_of hs.2.2.2.2.1.2.2.1, w2]
    refine ⟨fun c => by omega, fun _ => ⟨fun _ => ⟨fun c0 => ⟨fun c1 => ⟨fun c2 => ?_, fun c2 => ?_⟩, fun c1 => ⟨inB_n (by omega) (by omega), ?_⟩⟩, fun c0 => ⟨inB_n (by omega) (by omega), ?_⟩⟩, fun c => by omega⟩⟩
    · rw [if_neg c0, if_neg c1, if_neg c2] at hk1
      exact hk1
    · rw [if_neg c0, if_neg c1, if_pos c2] at hk1
      refine e151 hs1 h1.2.2.2.1.2.2.2 h14 (by omega) hi.nb hx ⟨_, rfl, ?_⟩
      refine vc_X 20 _ _ _ _ _ _ _ ?_
      simp only [↓v158_0, ↓v158_1, ↓v158_2, ↓v158_5, ↓v158_6, ↓v158_9, ↓v158_10, ↓v158_11, ↓v158_14, ↓v158_17, ↓v158_18, ↓v158_19, ↓v158_20, ↓v158_23, ↓v158_24, ↓v158_27, ↓v158_28, ↓v158_29, ↓v158_32, ↓v158_33, ↓v158_34, ↓v158_37, ↓v158_38, ↓v158_41, ↓v158_42, ↓v158_43, ↓v158_46, ↓v158_47, ↓v158_48, ↓v158_51, ↓v158_52, ↓v158_53, ↓v158_56, ↓v158_59, ↓v158_60, ↓qI_c, ↓qL_c, ↓qR_c, ↓pA_o, ↓qC_i, ↓qC_r, ↓oA_s, ↓gI_0, ↓gI_1, ↓gI_2, ↓gI_3, ↓gI_4, ↓gI_5, ↓gI_6, ↓gI_7, ↓gI_8, ↓gI_9, ↓gI_10, ↓gR_0, ↓gR_1, ↓gR_2, ↓gR_3, ↓gR_4, ↓gR_5, ↓gR_6, ↓gR_7, ↓gR_8, ↓gR_9, ↓gR_10, ↓sL_0, ↓sL_1, ↓sL_2, ↓sL_3, ↓sL_4, ↓sL_5, ↓sL_6, ↓sL_7, ↓sL_8, ↓sL_9, ↓sL_10, ↓rrf_si, ↓rrf_sg, ↓shO_si, ↓shO_sg, ↓shO_sr, ↓shA_si, ↓shA_sg, ↓shA_sr, ↓pAs_0, ↓pAs_i, ↓pAs_r, stk_n, stk_i, stk_l, stk_r, List.nil_append, List.cons_append, true_and, and_true, true_or, or_true, Nat.zero_add, dp_s, Nat.reduceAdd, le8_0, le8_1, le8_2, le8_3, le8_4, le8_5, le8_6, le8_7, le8_8, Classical.not_not, aT40, aT41, aT42, aT44, aT54, aT58, aT59, rT54, rT58, rT59, reduceIte, Nat.reduceEqDiff, qn_42, qn_44, true_implies, not_true_eq_false, not_false_eq_true, false_implies]
      exact hk1
    · rw [if_neg c0, if_pos c1] at hk1
      exact hk1
    · rw [if_pos c0] at hk1
      exact hk1
theorem d161 {d c : Nat} {M : Mm} {k : mQ} {r : Nat} {s : Ms} {x y : Int32} (h : RP M r s) (hi : IvS c s) (hc : c ≤ 512) (hk : ∀ M', RP M' r s → Rr r M M' → k (some (.inl (mRcd x y s).1)) M') : XC (d + 1) 161 [.inr (some r), .inl x, .inl y] M k := by
  obtain ⟨h1, o1⟩ := h.th
  have hk1 := hk _ h1 (o1.rr (fun _ q => q.elim))
  clear hk
  generalize hM1 : M.si r 0 0 = M1 at h1 o1 hk1
  have hs := h.1
  have hs1 := h1.1
  obtain ⟨sl0, sl1⟩ := h1.2.2.1.2.2.1
  refine xc ?_
  show X d 161 0 [some (.inr (some r)), some (.inl x), some (.inl y)] [] M k
  -- a record that is there
  have tel : ∀ (n : Nat) (q : RecT), n ≤ 1 → RcP M1 (r + 3) (18 * n) q → RB c q → k (some (.inl (tlI y q))) M1 → X d 161 14 [some (.inr (some r)), some (.inl (nI n)), some (.inl y)] [] M1 k := by
    intro n q hn hq hRB hk2
    have e1 : (18 : Int32) * nI n = nI (18 * n) := by rw [n_18, pk_mul]
    have e2 : nI (18 * n) + 3 = nI (18 * n + 3) := by rw [n_3, nI_add]
    have hq1 := hRB.1
    unfold tlI at hk2
    cases he : idx y 18 with
    | none =>
      rw [he] at hk2
      have := idx_no he
      unfold inB at this
      refine vc_X 40 _ _ _ _ _ _ _ ?_
      simp only [↓v161_0, ↓v161_1, ↓v161_2, ↓v161_5, ↓v161_6, ↓v161_9, ↓v161_10, ↓v161_11, ↓v161_14, ↓v161_15, ↓v161_18, ↓v161_20, ↓v161_21, ↓v161_22, ↓v161_23, ↓v161_24, ↓v161_27, ↓v161_28, ↓v161_31, ↓v161_32, ↓v161_34, ↓v161_37, ↓v161_38, ↓v161_39, ↓v161_40, ↓v161_42, ↓v161_45, ↓v161_46, ↓v161_48, ↓v161_49, ↓v161_50, ↓v161_51, ↓v161_52, ↓v161_55, ↓v161_57, ↓v161_58, ↓v161_59, ↓v161_60, ↓v161_61, ↓v161_62, ↓v161_65, ↓v161_66, ↓v161_69, ↓v161_70, ↓v161_73, ↓v161_75, ↓v161_76, ↓v161_77, ↓v161_78, ↓v161_79, ↓v161_80, ↓qI_c, ↓qL_c, ↓qR_c, ↓pA_o, ↓qC_i, ↓qC_r, ↓oA_s, ↓gI_0, ↓gI_1, ↓gI_2, ↓gI_3, ↓gI_4, ↓gI_5, ↓gI_6, ↓gI_7, ↓gI_8, ↓gI_9, ↓gI_10, ↓gR_0, ↓gR_1, ↓gR_2, ↓gR_3, ↓gR_4, ↓gR_5, ↓gR_6, ↓gR_7, ↓gR_8, ↓gR_9, ↓gR_10, ↓sL_0, ↓sL_1, ↓sL_2, ↓sL_3, ↓sL_4, ↓sL_5, ↓sL_6, ↓sL_7, ↓sL_8, ↓sL_9, ↓sL_10, ↓rrf_si, ↓rrf_sg, ↓shO_si, ↓shO_sg, ↓shO_sr, ↓shA_si, ↓shA_sg, ↓shA_sr, ↓pAs_0, ↓pAs_i, ↓pAs_r, stk_n, stk_i, stk_l, stk_r, List.nil_append, List.cons_append, true_and, and_true, true_or, or_true, Nat.zero_add, dp_s, Nat.reduceAdd, le8_0, le8_1, le8_2, le8_3, le8_4, le8_5, le8_6, le8_7, le8_8, Classical.not_not, aT40, aT41, aT42, aT44, aT54, aT58, aT59, rT54, rT58, rT59, reduceIte, Nat.reduceEqDiff, qn_42, qn_44, true_implies, not_true_eq_false, not_false_eq_true, false_implies, ↓shO_of hs1.1.1, ↓rrf_of hs1.1.2.2.2.1, ↓shA_of hs1.2.2.2.1.2.2.1, e1, nC (show 18 * n < 2147483648 by omega), hq.1, nI_nm (show q.1 < 2147483648 by omega) (show ((-1 : Int32)).toInt < 0 by decide), lt_T, le_T, T_0, T_17]
      exact ⟨inB_n (by omega) (by omega), fun _ => hk2, fun c1 => ⟨fun c2 => absurd ⟨by omega, by omega⟩ this, fun _ => hk2⟩⟩
    | some j =>
      rw [he] at hk2
      obtain ⟨rfl, hj⟩ := idx_n he
      have e3 : nI (18 * n) + nI j = nI (18 * n + j) := nI_add _ _
      have hl3 : q.2.2.2.2.length ≤ 3 := by
        refine Nat.le_of_not_lt (fun c => ?_)
        have hx : q.2.2.2.2[3]? = some q.2.2.2.2[3] := List.getElem?_eq_getElem (by omega)
        have := (hq.2.2.2.2.2 3 _ hx).1
        omega
      by_cases c12 : j < 12
      · have hv : M1.it (r + 3) (18 * n + j) = tellR q j := by
          unfold tellR
          by_cases j0 : j = 0
          · rw [if_pos j0, j0]; exact hq.1
          rw [if_neg j0]
          by_cases j1 : j = 1
          · rw [if_pos j1, j1]; exact hq.2.1
          rw [if_neg j1]
          by_cases j2 : j = 2
          · rw [if_pos j2, j2]; exact hq.2.2.1
          rw [if_neg j2]
          by_cases j3 : j = 3
          · rw [if_pos j3, j3]; exact hq.2.2.2.1
          rw [if_neg j3, if_pos c12]
          have := hq.2.2.2.2.1 (j - 4) (by omega)
          rw [show 18 * n + 4 + (j - 4) = 18 * n + j by omega] at this
          exact this
        refine vc_X 40 _ _ _ _ _ _ _ ?_
        simp only [↓v161_0, ↓v161_1, ↓v161_2, ↓v161_5, ↓v161_6, ↓v161_9, ↓v161_10, ↓v161_11, ↓v161_14, ↓v161_15, ↓v161_18, ↓v161_20, ↓v161_21, ↓v161_22, ↓v161_23, ↓v161_24, ↓v161_27, ↓v161_28, ↓v161_31, ↓v161_32, ↓v161_34, ↓v161_37, ↓v161_38, ↓v161_39, ↓v161_40, ↓v161_42, ↓v161_45, ↓v161_46, ↓v161_48, ↓v161_49, ↓v161_50, ↓v161_51, ↓v161_52, ↓v161_55, ↓v161_57, ↓v161_58, ↓v161_59, ↓v161_60, ↓v161_61, ↓v161_62, ↓v161_65, ↓v161_66, ↓v161_69, ↓v161_70, ↓v161_73, ↓v161_75, ↓v161_76, ↓v161_77, ↓v161_78, ↓v161_79, ↓v161_80, ↓qI_c, ↓qL_c, ↓qR_c, ↓pA_o, ↓qC_i, ↓qC_r, ↓oA_s, ↓gI_0, ↓gI_1, ↓gI_2, ↓gI_3, ↓gI_4, ↓gI_5, ↓gI_6, ↓gI_7, ↓gI_8, ↓gI_9, ↓gI_10, ↓gR_0, ↓gR_1, ↓gR_2, ↓gR_3, ↓gR_4, ↓gR_5, ↓gR_6, ↓gR_7, ↓gR_8, ↓gR_9, ↓gR_10, ↓sL_0, ↓sL_1, ↓sL_2, ↓sL_3, ↓sL_4, ↓sL_5, ↓sL_6, ↓sL_7, ↓sL_8, ↓sL_9, ↓sL_10, ↓rrf_si, ↓rrf_sg, ↓shO_si, ↓shO_sg, ↓shO_sr, ↓shA_si, ↓shA_sg, ↓shA_sr, ↓pAs_0, ↓pAs_i, ↓pAs_r, stk_n, stk_i, stk_l, stk_r, List.nil_append, List.cons_append, true_and, and_true, true_or, or_true, Nat.zero_add, dp_s, Nat.reduceAdd, le8_0, le8_1, le8_2, le8_3, le8_4, le8_5, le8_6, le8_7, le8_8, Classical.not_not, aT40, aT41, aT42, aT44, aT54, aT58, aT59, rT54, rT58, rT59, reduceIte, Nat.reduceEqDiff, qn_42, qn_44, true_implies, not_true_eq_false, not_false_eq_true, false_implies, ↓shO_of hs1.1.1, ↓rrf_of hs1.1.2.2.2.1, ↓shA_of hs1.2.2.2.1.2.2.1, e1, nC (show 18 * n < 2147483648 by omega), hq.1, nI_nm (show q.1 < 2147483648 by omega) (show ((-1 : Int32)).toInt < 0 by decide), lt_T, le_T, T_0, T_17, T_12, nT (show j < 2147483648 by omega), e3, nC (show 18 * n + j < 2147483648 by omega), hv]
        refine ⟨inB_n (by omega) (by omega), fun c => by omega, fun _ => ⟨fun _ => ⟨fun _ => ⟨inB_n (by omega) (by omega), hk2⟩, fun c => by omega⟩, fun c => by omega⟩⟩
      · have e4 : nI j - 12 = nI (j - 12) := by rw [n_12]; exact pk_sub (by omega)
        have e5 : nI (j - 12) / 2 = nI ((j - 12) / 2) := by rw [n_2, pk_div (by omega) (by omega) (by omega)]
        have htl : tellR q j = tellT q.2.2.2.2 (j - 12) := by
          unfold tellR
          rw [if_neg (by omega), if_neg (by omega), if_neg (by omega), if_neg (by omega), if_neg c12]
        have hk2 : k (some (.inl (tellR q j))) M1 := hk2
        rw [htl] at hk2
        unfold tellT at hk2
        cases hv : q.2.2.2.2[(j - 12) / 2]? with
        | none =>
          rw [hv] at hk2
          have hge : q.2.2.2.2.length ≤ (j - 12) / 2 := List.getElem?_eq_none_iff.mp hv
          refine vc_X 60 _ _ _ _ _ _ _ ?_
          simp only [↓v161_0, ↓v161_1, ↓v161_2, ↓v161_5, ↓v161_6, ↓v161_9, ↓v161_10, ↓v161_11, ↓v161_14, ↓v161_15, ↓v161_18, ↓v161_20, ↓v161_21, ↓v161_22, ↓v161_23, ↓v161_24, ↓v161_27, ↓v161_28, ↓v161_31, ↓v161_32, ↓v161_34, ↓v161_37, ↓v161_38, ↓v161_39, ↓v161_40, ↓v161_42, ↓v161_45, ↓v161_46, ↓v161_48, ↓v161_49, ↓v161_50, ↓v161_51, ↓v161_52, ↓v161_55, ↓v161_57, ↓v161_58, ↓v161_59, ↓v161_60, ↓v161_61, ↓v161_62, ↓v161_65, ↓v161_66, ↓v161_69, ↓v161_70, ↓v161_73, ↓v161_75, ↓v161_76, ↓v161_77, ↓v161_78, ↓v161_79, ↓v161_80, ↓qI_c, ↓qL_c, ↓qR_c, ↓pA_o, ↓qC_i, ↓qC_r, ↓oA_s, ↓gI_0, ↓gI_1, ↓gI_2, ↓gI_3, ↓gI_4, ↓gI_5, ↓gI_6, ↓gI_7, ↓gI_8, ↓gI_9, ↓gI_10, ↓gR_0, ↓gR_1, ↓gR_2, ↓gR_3, ↓gR_4, ↓gR_5, ↓gR_6, ↓gR_7, ↓gR_8, ↓gR_9, ↓gR_10, ↓sL_0, ↓sL_1, ↓sL_2, ↓sL_3, ↓sL_4, ↓sL_5, ↓sL_6, ↓sL_7, ↓sL_8, ↓sL_9, ↓sL_10, ↓rrf_si, ↓rrf_sg, ↓shO_si, ↓shO_sg, ↓shO_sr, ↓shA_si, ↓shA_sg, ↓shA_sr, ↓pAs_0, ↓pAs_i, ↓pAs_r, stk_n, stk_i, stk_l, stk_r, List.nil_append, List.cons_append, true_and, and_true, true_or, or_true, Nat.zero_add, dp_s, Nat.reduceAdd, le8_0, le8_1, le8_2, le8_3, le8_4, le8_5, le8_6, le8_7, le8_8, Classical.not_not, aT40, aT41, aT42, aT44, aT54, aT58, aT59, rT54, rT58, rT59, reduceIte, Nat.reduceEqDiff, qn_42, qn_44, true_implies, not_true_eq_false, not_false_eq_true, false_implies, ↓shO_of hs1.1.1, ↓rrf_of hs1.1.2.2.2.1, ↓shA_of hs1.2.2.2.1.2.2.1, e1, nC (show 18 * n < 2147483648 by omega), hq.1, nI_nm (show q.1 < 2147483648 by omega) (show ((-1 : Int32)).toInt < 0 by decide), lt_T, le_T, T_0, T_17, T_12, nT (show j < 2147483648 by omega), e3, e4, e5, e2, nC (show 18 * n + 3 < 2147483648 by omega), hq.2.2.2.1, nT (show (j - 12) / 2 < 2147483648 by omega), nT (show q.2.2.2.2.length < 2147483648 by omega)]
          refine ⟨inB_n (by omega) (by omega), fun c => by omega, fun _ => ⟨fun _ => ⟨fun c => by omega, fun _ => ⟨by decide, inB_n (by omega) (by omega), fun c => by omega, fun _ => hk2⟩⟩, fun c => by omega⟩⟩
        | some v =>
          rw [hv] at hk2
          have hlt : (j - 12) / 2 < q.2.2.2.2.length := (List.getElem?_eq_some_iff.mp hv).1
          obtain ⟨t3, g1, g2⟩ := hq.2.2.2.2.2 _ v hv
          have hcell : M1.it (r + 3) (18 * n + j) = if (j - 12) % 2 = 0 then nI (v / 16) else nI (v % 16) := by
            by_cases cm : (j - 12) % 2 = 0
            · rw [if_pos cm, ← g1]
              congr 1
              omega
            · rw [if_neg cm, ← g2]
              congr 1
              omega
          refine vc_X 60 _ _ _ _ _ _ _ ?_
          simp only [↓v161_0, ↓v161_1, ↓v161_2, ↓v161_5, ↓v161_6, ↓v161_9, ↓v161_10, ↓v161_11, ↓v161_14, ↓v161_15, ↓v161_18, ↓v161_20, ↓v161_21, ↓v161_22, ↓v161_23, ↓v161_24, ↓v161_27, ↓v161_28, ↓v161_31, ↓v161_32, ↓v161_34, ↓v161_37, ↓v161_38, ↓v161_39, ↓v161_40, ↓v161_42, ↓v161_45, ↓v161_46, ↓v161_48, ↓v161_49, ↓v161_50, ↓v161_51, ↓v161_52, ↓v161_55, ↓v161_57, ↓v161_58, ↓v161_59, ↓v161_60, ↓v161_61, ↓v161_62, ↓v161_65, ↓v161_66, ↓v161_69, ↓v161_70, ↓v161_73, ↓v161_75, ↓v161_76, ↓v161_77, ↓v161_78, ↓v161_79, ↓v161_80, ↓qI_c, ↓qL_c, ↓qR_c, ↓pA_o, ↓qC_i, ↓qC_r, ↓oA_s, ↓gI_0, ↓gI_1, ↓gI_2, ↓gI_3, ↓gI_4, ↓gI_5, ↓gI_6, ↓gI_7, ↓gI_8, ↓gI_9, ↓gI_10, ↓gR_0, ↓gR_1, ↓gR_2, ↓gR_3, ↓gR_4, ↓gR_5, ↓gR_6, ↓gR_7, ↓gR_8, ↓gR_9, ↓gR_10, ↓sL_0, ↓sL_1, ↓sL_2, ↓sL_3, ↓sL_4, ↓sL_5, ↓sL_6, ↓sL_7, ↓sL_8, ↓sL_9, ↓sL_10, ↓rrf_si, ↓rrf_sg, ↓shO_si, ↓shO_sg, ↓shO_sr, ↓shA_si, ↓shA_sg, ↓shA_sr, ↓pAs_0, ↓pAs_i, ↓pAs_r, stk_n, stk_i, stk_l, stk_r, List.nil_append, List.cons_append, true_and, and_true, true_or, or_true, Nat.zero_add, dp_s, Nat.reduceAdd, le8_0, le8_1, le8_2, le8_3, le8_4, le8_5, le8_6, le8_7, le8_8, Classical.not_not, aT40, aT41, aT42, aT44, aT54, aT58, aT59, rT54, rT58, rT59, reduceIte, Nat.reduceEqDiff, qn_42, qn_44, true_implies, not_true_eq_false, not_false_eq_true, false_implies, ↓shO_of hs1.1.1, ↓rrf_of hs1.1.2.2.2.1, ↓shA_of hs1.2.2.2.1.2.2.1, e1, nC (show 18 * n < 2147483648 by omega), hq.1, nI_nm (show q.1 < 2147483648 by omega) (show ((-1 : Int32)).toInt < 0 by decide), lt_T, le_T, T_0, T_17, T_12, nT (show j < 2147483648 by omega), e3, e4, e5, e2, nC (show 18 * n + 3 < 2147483648 by omega), hq.2.2.2.1, nT (show (j - 12) / 2 < 2147483648 by omega), nT (show q.2.2.2.2.length < 2147483648 by omega), nC (show 18 * n + j < 2147483648 by omega)]
          refine ⟨inB_n (by omega) (by omega), fun c => by omega, fun _ => ⟨fun _ => ⟨fun c => by omega, fun _ => ⟨by decide, inB_n (by omega) (by omega), fun _ => ⟨inB_n (by omega) (by omega), ?_⟩, fun c => by omega⟩⟩, fun c => by omega⟩⟩
          rw [hcell]
          exact hk2
  unfold mRcd at hk1
  by_cases x0 : x = 0
  · rw [if_pos x0] at hk1
    subst x0
    refine vc_X 20 _ _ _ _ _ _ _ ?_
    simp only [↓v161_0, ↓v161_1, ↓v161_2, ↓v161_5, ↓v161_6, ↓v161_9, ↓v161_10, ↓v161_11, ↓v161_14, ↓v161_15, ↓v161_18, ↓v161_20, ↓v161_21, ↓v161_22, ↓v161_23, ↓v161_24, ↓v161_27, ↓v161_28, ↓v161_31, ↓v161_32, ↓v161_34, ↓v161_37, ↓v161_38, ↓v161_39, ↓v161_40, ↓v161_42, ↓v161_45, ↓v161_46, ↓v161_48, ↓v161_49, ↓v161_50, ↓v161_51, ↓v161_52, ↓v161_55, ↓v161_57, ↓v161_58, ↓v161_59, ↓v161_60, ↓v161_61, ↓v161_62, ↓v161_65, ↓v161_66, ↓v161_69, ↓v161_70, ↓v161_73, ↓v161_75, ↓v161_76, ↓v161_77, ↓v161_78, ↓v161_79, ↓v161_80, ↓qI_c, ↓qL_c, ↓qR_c, ↓pA_o, ↓qC_i, ↓qC_r, ↓oA_s, ↓gI_0, ↓gI_1, ↓gI_2, ↓gI_3, ↓gI_4, ↓gI_5, ↓gI_6, ↓gI_7, ↓gI_8, ↓gI_9, ↓gI_10, ↓gR_0, ↓gR_1, ↓gR_2, ↓gR_3, ↓gR_4, ↓gR_5, ↓gR_6, ↓gR_7, ↓gR_8, ↓gR_9, ↓gR_10, ↓sL_0, ↓sL_1, ↓sL_2, ↓sL_3, ↓sL_4, ↓sL_5, ↓sL_6, ↓sL_7, ↓sL_8, ↓sL_9, ↓sL_10, ↓rrf_si, ↓rrf_sg, ↓shO_si, ↓shO_sg, ↓shO_sr, ↓shA_si, ↓shA_sg, ↓shA_sr, ↓pAs_0, ↓pAs_i, ↓pAs_r, stk_n, stk_i, stk_l, stk_r, List.nil_append, List.cons_append, true_and, and_true, true_or, or_true, Nat.zero_add, dp_s, Nat.reduceAdd, le8_0, le8_1, le8_2, le8_3, le8_4, le8_5, le8_6, le8_7, le8_8, Classical.not_not, aT40, aT41, aT42, aT44, aT54, aT58, aT59, rT54, rT58, rT59, reduceIte, Nat.reduceEqDiff, qn_42, qn_44, true_implies, not_true_eq_false, not_false_eq_true, false_implies, hM1, ↓shO_of hs.1.1]
    exact tel 0 s.s0 (by omega) sl0 hi.2.2.2.1.2.1 hk1
  · rw [if_neg x0] at hk1
    by_cases x1 : x = 1
    · rw [if_pos x1] at hk1
      subst x1
      cases hq : s.s1 with
      | none =>
        rw [hq] at sl1 hk1
        have sl1 : M1.it (r + 3) 18 = -1 := sl1
        have e1 : (18 : Int32) * 1 = nI 18 := rfl
        refine vc_X 20 _ _ _ _ _ _ _ ?_
        simp only [↓v161_0, ↓v161_1, ↓v161_2, ↓v161_5, ↓v161_6, ↓v161_9, ↓v161_10, ↓v161_11, ↓v161_14, ↓v161_15, ↓v161_18, ↓v161_20, ↓v161_21, ↓v161_22, ↓v161_23, ↓v161_24, ↓v161_27, ↓v161_28, ↓v161_31, ↓v161_32, ↓v161_34, ↓v161_37, ↓v161_38, ↓v161_39, ↓v161_40, ↓v161_42, ↓v161_45, ↓v161_46, ↓v161_48, ↓v161_49, ↓v161_50, ↓v161_51, ↓v161_52, ↓v161_55, ↓v161_57, ↓v161_58, ↓v161_59, ↓v161_60, ↓v161_61, ↓v161_62, ↓v161_65, ↓v161_66, ↓v161_69, ↓v161_70, ↓v161_73, ↓v161_75, ↓v161_76, ↓v161_77, ↓v161_78, ↓v161_79, ↓v161_80, ↓qI_c, ↓qL_c, ↓qR_c, ↓pA_o, ↓qC_i, ↓qC_r, ↓oA_s, ↓gI_0, ↓gI_1, ↓gI_2, ↓gI_3, ↓gI_4, ↓gI_5, ↓gI_6, ↓gI_7, ↓gI_8, ↓gI_9, ↓gI_10, ↓gR_0, ↓gR_1, ↓gR_2, ↓gR_3, ↓gR_4, ↓gR_5, ↓gR_6, ↓gR_7, ↓gR_8, ↓gR_9, ↓gR_10, ↓sL_0, ↓sL_1, ↓sL_2, ↓sL_3, ↓sL_4, ↓sL_5, ↓sL_6, ↓sL_7, ↓sL_8, ↓sL_9, ↓sL_10, ↓rrf_si, ↓rrf_sg, ↓shO_si, ↓shO_sg, ↓shO_sr, ↓shA_si, ↓shA_sg, ↓shA_sr, ↓pAs_0, ↓pAs_i, ↓pAs_r, stk_n, stk_i, stk_l, stk_r, List.nil_append, List.cons_append, true_and, and_true, true_or, or_true, Nat.zero_add, dp_s, Nat.reduceAdd, le8_0, le8_1, le8_2, le8_3, le8_4, le8_5, le8_6, le8_7, le8_8, Classical.not_not, aT40, aT41, aT42, aT44, aT54, aT58, aT59, rT54, rT58, rT59, reduceIte, Nat.reduceEqDiff, qn_42, qn_44, true_implies, not_true_eq_false, not_false_eq_true, false_implies, hM1, ↓shO_of hs.1.1, i10]
        refine vc_X 20 _ _ _ _ _ _ _ ?_
        simp only [↓v161_0, ↓v161_1, ↓v161_2, ↓v161_5, ↓v161_6, ↓v161_9, ↓v161_10, ↓v161_11, ↓v161_14, ↓v161_15, ↓v161_18, ↓v161_20, ↓v161_21, ↓v161_22, ↓v161_23, ↓v161_24, ↓v161_27, ↓v161_28, ↓v161_31, ↓v161_32, ↓v161_34, ↓v161_37, ↓v161_38, ↓v161_39, ↓v161_40, ↓v161_42, ↓v161_45, ↓v161_46, ↓v161_48, ↓v161_49, ↓v161_50, ↓v161_51, ↓v161_52, ↓v161_55, ↓v161_57, ↓v161_58, ↓v161_59, ↓v161_60, ↓v161_61, ↓v161_62, ↓v161_65, ↓v161_66, ↓v161_69, ↓v161_70, ↓v161_73, ↓v161_75, ↓v161_76, ↓v161_77, ↓v161_78, ↓v161_79, ↓v161_80, ↓qI_c, ↓qL_c, ↓qR_c, ↓pA_o, ↓qC_i, ↓qC_r, ↓oA_s, ↓gI_0, ↓gI_1, ↓gI_2, ↓gI_3, ↓gI_4, ↓gI_5, ↓gI_6, ↓gI_7, ↓gI_8, ↓gI_9, ↓gI_10, ↓gR_0, ↓gR_1, ↓gR_2, ↓gR_3, ↓gR_4, ↓gR_5, ↓gR_6, ↓gR_7, ↓gR_8, ↓gR_9, ↓gR_10, ↓sL_0, ↓sL_1, ↓sL_2, ↓sL_3, ↓sL_4, ↓sL_5, ↓sL_6, ↓sL_7, ↓sL_8, ↓sL_9, ↓sL_10, ↓rrf_si, ↓rrf_sg, ↓shO_si, ↓shO_sg, ↓shO_sr, ↓shA_si, ↓shA_sg, ↓shA_sr, ↓pAs_0, ↓pAs_i, ↓pAs_r, stk_n, stk_i, stk_l, stk_r, List.nil_append, List.cons_append, true_and, and_true, true_or, or_true, Nat.zero_add, dp_s, Nat.reduceAdd, le8_0, le8_1, le8_2, le8_3, le8_4, le8_5, le8_6, le8_7, le8_8, Classical.not_not, aT40, aT41, aT42, aT44, aT54, aT58, aT59, rT54, rT58, rT59, reduceIte, Nat.reduceEqDiff, qn_42, qn_44, true_implies, not_true_eq_false, not_false_eq_true, false_implies, ↓shO_of hs1.1.1, ↓rrf_of hs1.1.2.2.2.1, ↓shA_of hs1.2.2.2.1.2.2.1, e1, nC (show 18 < 2147483648 by omega), sl1]
        exact ⟨inB_n (by omega) (by omega), hk1⟩
      | some q =>
        rw [hq] at sl1 hk1
        refine vc_X 20 _ _ _ _ _ _ _ ?_
        simp only [↓v161_0, ↓v161_1, ↓v161_2, ↓v161_5, ↓v161_6, ↓v161_9, ↓v161_10, ↓v161_11, ↓v161_14, ↓v161_15, ↓v161_18, ↓v161_20, ↓v161_21, ↓v161_22, ↓v161_23, ↓v161_24, ↓v161_27, ↓v161_28, ↓v161_31, ↓v161_32, ↓v161_34, ↓v161_37, ↓v161_38, ↓v161_39, ↓v161_40, ↓v161_42, ↓v161_45, ↓v161_46, ↓v161_48, ↓v161_49, ↓v161_50, ↓v161_51, ↓v161_52, ↓v161_55, ↓v161_57, ↓v161_58, ↓v161_59, ↓v161_60, ↓v161_61, ↓v161_62, ↓v161_65, ↓v161_66, ↓v161_69, ↓v161_70, ↓v161_73, ↓v161_75, ↓v161_76, ↓v161_77, ↓v161_78, ↓v161_79, ↓v161_80, ↓qI_c, ↓qL_c, ↓qR_c, ↓pA_o, ↓qC_i, ↓qC_r, ↓oA_s, ↓gI_0, ↓gI_1, ↓gI_2, ↓gI_3, ↓gI_4, ↓gI_5, ↓gI_6, ↓gI_7, ↓gI_8, ↓gI_9, ↓gI_10, ↓gR_0, ↓gR_1, ↓gR_2, ↓gR_3, ↓gR_4, ↓gR_5, ↓gR_6, ↓gR_7, ↓gR_8, ↓gR_9, ↓gR_10, ↓sL_0, ↓sL_1, ↓sL_2, ↓sL_3, ↓sL_4, ↓sL_5, ↓sL_6, ↓sL_7, ↓sL_8, ↓sL_9, ↓sL_10, ↓rrf_si, ↓rrf_sg, ↓shO_si, ↓shO_sg, ↓shO_sr, ↓shA_si, ↓shA_sg, ↓shA_sr, ↓pAs_0, ↓pAs_i, ↓pAs_r, stk_n, stk_i, stk_l, stk_r, List.nil_append, List.cons_append, true_and, and_true, true_or, or_true, Nat.zero_add, dp_s, Nat.reduceAdd, le8_0, le8_1, le8_2, le8_3, le8_4, le8_5, le8_6, le8_7, le8_8, Classical.not_not, aT40, aT41, aT42, aT44, aT54, aT58, aT59, rT54, rT58, rT59, reduceIte, Nat.reduceEqDiff, qn_42, qn_44, true_implies, not_true_eq_false, not_false_eq_true, false_implies, hM1, ↓shO_of hs.1.1, i10]
        exact tel 1 q (by omega) sl1 (hi.2.2.2.1.2.2.1 q hq) hk1
    · rw [if_neg x1] at hk1
      refine vc_X 20 _ _ _ _ _ _ _ ?_
      simp only [↓v161_0, ↓v161_1, ↓v161_2, ↓v161_5, ↓v161_6, ↓v161_9, ↓v161_10, ↓v161_11, ↓v161_14, ↓v161_15, ↓v161_18, ↓v161_20, ↓v161_21, ↓v161_22, ↓v161_23, ↓v161_24, ↓v161_27, ↓v161_28, ↓v161_31, ↓v161_32, ↓v161_34, ↓v161_37, ↓v161_38, ↓v161_39, ↓v161_40, ↓v161_42, ↓v161_45, ↓v161_46, ↓v161_48, ↓v161_49, ↓v161_50, ↓v161_51, ↓v161_52, ↓v161_55, ↓v161_57, ↓v161_58, ↓v161_59, ↓v161_60, ↓v161_61, ↓v161_62, ↓v161_65, ↓v161_66, ↓v161_69, ↓v161_70, ↓v161_73, ↓v161_75, ↓v161_76, ↓v161_77, ↓v161_78, ↓v161_79, ↓v161_80, ↓qI_c, ↓qL_c, ↓qR_c, ↓pA_o, ↓qC_i, ↓qC_r, ↓oA_s, ↓gI_0, ↓gI_1, ↓gI_2, ↓gI_3, ↓gI_4, ↓gI_5, ↓gI_6, ↓gI_7, ↓gI_8, ↓gI_9, ↓gI_10, ↓gR_0, ↓gR_1, ↓gR_2, ↓gR_3, ↓gR_4, ↓gR_5, ↓gR_6, ↓gR_7, ↓gR_8, ↓gR_9, ↓gR_10, ↓sL_0, ↓sL_1, ↓sL_2, ↓sL_3, ↓sL_4, ↓sL_5, ↓sL_6, ↓sL_7, ↓sL_8, ↓sL_9, ↓sL_10, ↓rrf_si, ↓rrf_sg, ↓shO_si, ↓shO_sg, ↓shO_sr, ↓shA_si, ↓shA_sg, ↓shA_sr, ↓pAs_0, ↓pAs_i, ↓pAs_r, stk_n, stk_i, stk_l, stk_r, List.nil_append, List.cons_append, true_and, and_true, true_or, or_true, Nat.zero_add, dp_s, Nat.reduceAdd, le8_0, le8_1, le8_2, le8_3, le8_4, le8_5, le8_6, le8_7, le8_8, Classical.not_not, aT40, aT41, aT42, aT44, aT54, aT58, aT59, rT54, rT58, rT59, reduceIte, Nat.reduceEqDiff, qn_42, qn_44, true_implies, not_true_eq_false, not_false_eq_true, false_implies, hM1, ↓shO_of hs.1.1]
      exact ⟨fun c => absurd c x0, fun _ => ⟨fun _ => hk1, fun c => absurd c x1⟩⟩
