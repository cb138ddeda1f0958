/-! the latest record on the disk; poll, disk, record, waiting, extent, about -/
theorem CP.sl {M : Mm} {b : Nat} {D : DT} {Q : QT} {C : List Nat × Nat} {L : (Nat → Nat) × Option Nat} {I : IT} {T : List Nat × List Nat} {E : (Nat → Option Nat) × (Nat → Bool)} {F : FT} (h : CP M b D Q C L I T E F) : SlC M (b + 1) D.2.1 (F.1 D.2.1) (D.2.2.map (fun a => (a, F.1 a))) := by
  obtain ⟨h1, h2, h3, h4, h5⟩ := h.2.1
  refine ⟨h1.1, h2, h4.1, ?_, fun z hz => ?_⟩
  · show M.rf (b + 3) 1 = _
    rw [h3]
    cases D.2.2 <;> rfl
  · cases hd : D.2.2 with
    | none => rw [hd] at hz; cases hz
    | some a =>
      rw [hd] at hz
      cases hz
      exact (h5 a hd).1
theorem c16 {d c : Nat} {M : Mm} {k : mQ} {b : Nat} {s : Ms} {D : DT} {pm : Nat → Nat} {ws : List WT} {G : Nat → RecT} {a : Nat} {C : List Nat × Nat} {L : (Nat → Nat) × Option Nat} {I : IT} {T : List Nat × List Nat} {E : (Nat → Option Nat) × (Nat → Bool)} {Q : QT} {f : Nat × Option Nat × Nat × Nat × Bool} (h : CP M b D Q C L I T E (G, f)) (r : CR s D pm ws G a) (hi : IvS c s) (hk : ∀ a1, RcC M b G a1 → G a1 = s.R → k (some (.inr (.inr (some a1)))) M) : XC (d + 1) 16 [.inr (some (b + 1))] M k := by
  obtain ⟨⟨d1, d2⟩, _⟩ := hi.2.2.2.2.1
  obtain ⟨h1, h2, h3, h4, h5⟩ := h.2.1
  have r1 := r.2.1
  have r2 := r.2.2.1
  have eR : s.R = latR s.s0 s.s1 := rfl
  refine k16 h.sl (fun c => hk _ h4 ?_) (fun z hz c => ?_)
  · rw [eR, ← r1, ← r2]
    cases hd : D.2.2 with
    | none => rfl
    | some a1 =>
      rw [hd] at c
      have c : decide ((G D.2.1).1 ≤ (G a1).1) = false := c
      have c := of_decide_eq_false c
      show G D.2.1 = if (G D.2.1).1 < (G a1).1 then G a1 else G D.2.1
      rw [if_neg (by omega)]
  · cases hd : D.2.2 with
    | none => rw [hd] at hz; cases hz
    | some a1 =>
      rw [hd] at hz c r2
      cases hz
      have c : decide ((G D.2.1).1 ≤ (G a1).1) = true := c
      have c := of_decide_eq_true c
      refine hk a1 (h5 a1 hd) ?_
      rw [eR, ← r1, ← r2]
      show G a1 = if (G D.2.1).1 < (G a1).1 then G a1 else G D.2.1
      have e0 : (G D.2.1).1 % 2 = 0 := by rw [r1]; exact d1
      have e1 : (G a1).1 % 2 = 1 := d2 _ (by rw [← r2]; rfl)
      rw [if_pos (by omega)]
theorem mPoll_s (x : Int32) (s : Ms) : (mPoll x s).2 = s := by
  unfold mPoll
  split
  · rfl
  · split
    · rfl
    · split <;> rfl
theorem c90 {d c : Nat} {M : Mm} {k : mQ} {b : Nat} {s : Ms} {x : Int32} (h : CM M b s) (hi : IvS c s) (hc : c ≤ 512) (hk : k (some (.inl (mPoll x s).1)) M) : XC (d + 2) 90 [.inr (some b), .inl x] M k := by
  obtain ⟨D, pm, ws, im, G, a, h, r⟩ := h
  have f17 : M.it b 17 = nI s.mu := h.f17
  have hm : s.mu ≤ c := hi.2.2.1.2.2.2.1
  have hDs := h.2.1.1.1.1
  refine xc ?_
  show X (d + 1) 90 0 [some (.inr (some b)), some (.inl x)] [] M k
  unfold mPoll at hk
  by_cases c1 : x.toInt < 1 ∨ (s.mu : Int) < x.toInt
  · rw [if_pos c1] at hk
    refine vc_X 40 _ _ _ _ _ _ _ ?_
    simp only [↓v90_0, ↓v90_1, ↓v90_2, ↓v90_5, ↓v90_6, ↓v90_7, ↓v90_10, ↓v90_13, ↓v90_14, ↓v90_15, ↓v90_18, ↓v90_19, ↓v90_22, ↓v90_23, ↓v90_24, ↓v90_25, ↓v90_28, ↓v90_29, ↓v90_30, ↓v90_33, ↓v90_34, ↓v90_35, ↓v90_36, ↓v90_39, ↓v90_42, ↓v90_45, ↓v90_46, ↓v90_49, ↓v90_50, ↓v90_53, ↓v90_54, ↓qI_c, ↓qL_c, ↓qR_c, ↓pA_o, ↓qC_i, ↓qC_r, ↓oA_s, ↓gI_0, ↓gI_1, ↓gI_2, ↓gI_3, ↓gI_4, ↓gI_5, ↓gI_6, ↓gI_7, ↓gI_8, ↓gI_9, ↓gI_10, ↓gR_0, ↓gR_1, ↓gR_2, ↓gR_3, ↓gR_4, ↓gR_5, ↓gR_6, ↓gR_7, ↓gR_8, ↓gR_9, ↓gR_10, ↓sL_0, ↓sL_1, ↓sL_2, ↓sL_3, ↓sL_4, ↓sL_5, ↓sL_6, ↓sL_7, ↓sL_8, ↓sL_9, ↓sL_10, ↓rrf_si, ↓rrf_sg, ↓shO_si, ↓shO_sg, ↓shO_sr, ↓shA_si, ↓shA_sg, ↓shA_sr, ↓pAs_0, ↓pAs_i, ↓pAs_r, stk_n, stk_i, stk_l, stk_r, List.nil_append, List.cons_append, true_and, and_true, true_or, or_true, Nat.zero_add, dp_s, Nat.reduceAdd, le8_0, le8_1, le8_2, le8_3, le8_4, le8_5, le8_6, le8_7, le8_8, Classical.not_not, aT40, aT41, aT42, aT44, aT54, aT58, aT59, rT54, rT58, rT59, reduceIte, Nat.reduceEqDiff, qn_42, qn_44, true_implies, not_true_eq_false, not_false_eq_true, false_implies, lt_T, le_T, T_1, ↓shO_of h.1.1.1, f17, nT (show s.mu < 2147483648 by omega), ↓rrf_of h.1.2.1.2.2.2.2.2.2.2, ↓shA_of h.1.2.2.1.2.2.2]
    exact ⟨fun _ => hk, fun c2 => ⟨fun _ => hk, fun c3 => absurd c1 (by omega)⟩⟩
  · rw [if_neg c1] at hk
    obtain ⟨j, hj, rfl⟩ := inB_of (x := x) (n := 513) ⟨by omega, by omega⟩ (by omega)
    rw [nT (by omega)] at c1
    rw [nT (by omega), Int.toNat_natCast] at hk
    have hlo : M.it (b + 278) j = bI (s.lo j) := h.2.2.2.2.2.2.2.1.2 j hj
    cases hl : s.lo j with
    | true =>
      rw [hl, bI_t] at hlo
      rw [if_pos hl] at hk
      refine vc_X 40 _ _ _ _ _ _ _ ?_
      simp only [↓v90_0, ↓v90_1, ↓v90_2, ↓v90_5, ↓v90_6, ↓v90_7, ↓v90_10, ↓v90_13, ↓v90_14, ↓v90_15, ↓v90_18, ↓v90_19, ↓v90_22, ↓v90_23, ↓v90_24, ↓v90_25, ↓v90_28, ↓v90_29, ↓v90_30, ↓v90_33, ↓v90_34, ↓v90_35, ↓v90_36, ↓v90_39, ↓v90_42, ↓v90_45, ↓v90_46, ↓v90_49, ↓v90_50, ↓v90_53, ↓v90_54, ↓qI_c, ↓qL_c, ↓qR_c, ↓pA_o, ↓qC_i, ↓qC_r, ↓oA_s, ↓gI_0, ↓gI_1, ↓gI_2, ↓gI_3, ↓gI_4, ↓gI_5, ↓gI_6, ↓gI_7, ↓gI_8, ↓gI_9, ↓gI_10, ↓gR_0, ↓gR_1, ↓gR_2, ↓gR_3, ↓gR_4, ↓gR_5, ↓gR_6, ↓gR_7, ↓gR_8, ↓gR_9, ↓gR_10, ↓sL_0, ↓sL_1, ↓sL_2, ↓sL_3, ↓sL_4, ↓sL_5, ↓sL_6, ↓sL_7, ↓sL_8, ↓sL_9, ↓sL_10, ↓rrf_si, ↓rrf_sg, ↓shO_si, ↓shO_sg, ↓shO_sr, ↓shA_si, ↓shA_sg, ↓shA_sr, ↓pAs_0, ↓pAs_i, ↓pAs_r, stk_n, stk_i, stk_l, stk_r, List.nil_append, List.cons_append, true_and, and_true, true_or, or_true, Nat.zero_add, dp_s, Nat.reduceAdd, le8_0, le8_1, le8_2, le8_3, le8_4, le8_5, le8_6, le8_7, le8_8, Classical.not_not, aT40, aT41, aT42, aT44, aT54, aT58, aT59, rT54, rT58, rT59, reduceIte, Nat.reduceEqDiff, qn_42, qn_44, true_implies, not_true_eq_false, not_false_eq_true, false_implies, lt_T, le_T, T_1, ↓shO_of h.1.1.1, f17, nT (show s.mu < 2147483648 by omega), nT (show j < 2147483648 by omega), ↓rrf_of h.1.2.1.2.2.2.2.2.2.2, ↓shA_of h.1.2.2.1.2.2.2, nT (show 513 < 2147483648 by omega), nC (show j < 2147483648 by omega), hlo, i10]
      exact ⟨fun c => by omega, fun _ => ⟨fun c => by omega, fun _ => ⟨fun _ => ⟨inB_n (by omega) (by omega), hk⟩, fun c => by omega⟩⟩⟩
    | false =>
      rw [hl, bI_f] at hlo
      rw [if_neg (by rw [hl]; decide)] at hk
      refine vc_X 40 _ _ _ _ _ _ _ ?_
      simp only [↓v90_0, ↓v90_1, ↓v90_2, ↓v90_5, ↓v90_6, ↓v90_7, ↓v90_10, ↓v90_13, ↓v90_14, ↓v90_15, ↓v90_18, ↓v90_19, ↓v90_22, ↓v90_23, ↓v90_24, ↓v90_25, ↓v90_28, ↓v90_29, ↓v90_30, ↓v90_33, ↓v90_34, ↓v90_35, ↓v90_36, ↓v90_39, ↓v90_42, ↓v90_45, ↓v90_46, ↓v90_49, ↓v90_50, ↓v90_53, ↓v90_54, ↓qI_c, ↓qL_c, ↓qR_c, ↓pA_o, ↓qC_i, ↓qC_r, ↓oA_s, ↓gI_0, ↓gI_1, ↓gI_2, ↓gI_3, ↓gI_4, ↓gI_5, ↓gI_6, ↓gI_7, ↓gI_8, ↓gI_9, ↓gI_10, ↓gR_0, ↓gR_1, ↓gR_2, ↓gR_3, ↓gR_4, ↓gR_5, ↓gR_6, ↓gR_7, ↓gR_8, ↓gR_9, ↓gR_10, ↓sL_0, ↓sL_1, ↓sL_2, ↓sL_3, ↓sL_4, ↓sL_5, ↓sL_6, ↓sL_7, ↓sL_8, ↓sL_9, ↓sL_10, ↓rrf_si, ↓rrf_sg, ↓shO_si, ↓shO_sg, ↓shO_sr, ↓shA_si, ↓shA_sg, ↓shA_sr, ↓pAs_0, ↓pAs_i, ↓pAs_r, stk_n, stk_i, stk_l, stk_r, List.nil_append, List.cons_append, true_and, and_true, true_or, or_true, Nat.zero_add, dp_s, Nat.reduceAdd, le8_0, le8_1, le8_2, le8_3, le8_4, le8_5, le8_6, le8_7, le8_8, Classical.not_not, aT40, aT41, aT42, aT44, aT54, aT58, aT59, rT54, rT58, rT59, reduceIte, Nat.reduceEqDiff, qn_42, qn_44, true_implies, not_true_eq_false, not_false_eq_true, false_implies, lt_T, le_T, T_1, ↓shO_of h.1.1.1, f17, nT (show s.mu < 2147483648 by omega), nT (show j < 2147483648 by omega), ↓rrf_of h.1.2.1.2.2.2.2.2.2.2, ↓shA_of h.1.2.2.1.2.2.2, nT (show 513 < 2147483648 by omega), nC (show j < 2147483648 by omega), hlo, i00, ↓rrf_of h.1.1.2.1, ↓shO_of hDs]
      refine ⟨fun c => by omega, fun _ => ⟨fun c => by omega, fun _ => ⟨fun _ => ⟨inB_n (by omega) (by omega), ?_⟩, fun c => by omega⟩⟩⟩
      refine c16 h r hi (fun a1 rc e1 => ⟨_, rfl, ?_⟩)
      obtain ⟨ra, rb, rd⟩ := rc
      rw [e1] at ra
      have hu := ra.2.2.2.2.2.2.2.2.1
      refine vc_X 40 _ _ _ _ _ _ _ ?_
      simp only [↓v90_0, ↓v90_1, ↓v90_2, ↓v90_5, ↓v90_6, ↓v90_7, ↓v90_10, ↓v90_13, ↓v90_14, ↓v90_15, ↓v90_18, ↓v90_19, ↓v90_22, ↓v90_23, ↓v90_24, ↓v90_25, ↓v90_28, ↓v90_29, ↓v90_30, ↓v90_33, ↓v90_34, ↓v90_35, ↓v90_36, ↓v90_39, ↓v90_42, ↓v90_45, ↓v90_46, ↓v90_49, ↓v90_50, ↓v90_53, ↓v90_54, ↓qI_c, ↓qL_c, ↓qR_c, ↓pA_o, ↓qC_i, ↓qC_r, ↓oA_s, ↓gI_0, ↓gI_1, ↓gI_2, ↓gI_3, ↓gI_4, ↓gI_5, ↓gI_6, ↓gI_7, ↓gI_8, ↓gI_9, ↓gI_10, ↓gR_0, ↓gR_1, ↓gR_2, ↓gR_3, ↓gR_4, ↓gR_5, ↓gR_6, ↓gR_7, ↓gR_8, ↓gR_9, ↓gR_10, ↓sL_0, ↓sL_1, ↓sL_2, ↓sL_3, ↓sL_4, ↓sL_5, ↓sL_6, ↓sL_7, ↓sL_8, ↓sL_9, ↓sL_10, ↓rrf_si, ↓rrf_sg, ↓shO_si, ↓shO_sg, ↓shO_sr, ↓shA_si, ↓shA_sg, ↓shA_sr, ↓pAs_0, ↓pAs_i, ↓pAs_r, stk_n, stk_i, stk_l, stk_r, List.nil_append, List.cons_append, true_and, and_true, true_or, or_true, Nat.zero_add, dp_s, Nat.reduceAdd, le8_0, le8_1, le8_2, le8_3, le8_4, le8_5, le8_6, le8_7, le8_8, Classical.not_not, aT40, aT41, aT42, aT44, aT54, aT58, aT59, rT54, rT58, rT59, reduceIte, Nat.reduceEqDiff, qn_42, qn_44, true_implies, not_true_eq_false, not_false_eq_true, false_implies, ↓shO_of ra.1.1, ra.2.2.1, lt_T, nT (show s.R.2.1 < 2147483648 by omega), nT (show j < 2147483648 by omega)]
      refine ⟨fun c => ?_, fun c => ?_⟩
      · rw [if_neg (by omega)] at hk
        exact hk
      · rw [if_pos (by omega)] at hk
        exact hk
theorem mDis_s (e q i : Int32) (s : Ms) : (mDis e q i s).2 = s := by
  unfold mDis
  split <;> rfl
theorem c111 {d c : Nat} {M : Mm} {k : mQ} {b : Nat} {s : Ms} {e q i : Int32} (h : CM M b s) (hk : k (some (.inl (mDis e q i s).1)) M) : XC (d + 2) 111 [.inr (some b), .inl e, .inl q, .inl i] M k := by
  obtain ⟨D, pm, ws, im, G, a, h, r⟩ := h
  have hDs := h.2.1.1.1.1
  refine xc ?_
  show X (d + 1) 111 0 [some (.inr (some b)), some (.inl e), some (.inl q), some (.inl i)] [] M k
  unfold mDis at hk
  have t8 : ∀ (y : Int32) n, idx y n = none ∨ ∃ j, idx y n = some j := fun y n => by cases idx y n <;> simp
  refine vc_X 20 _ _ _ _ _ _ _ ?_
  simp only [↓v111_0, ↓v111_1, ↓v111_4, ↓v111_7, ↓v111_8, ↓v111_11, ↓v111_12, ↓v111_14, ↓v111_17, ↓v111_18, ↓v111_19, ↓v111_20, ↓v111_23, ↓v111_24, ↓v111_26, ↓v111_27, ↓v111_28, ↓v111_29, ↓v111_30, ↓v111_33, ↓qI_c, ↓qL_c, ↓qR_c, ↓pA_o, ↓qC_i, ↓qC_r, ↓oA_s, ↓gI_0, ↓gI_1, ↓gI_2, ↓gI_3, ↓gI_4, ↓gI_5, ↓gI_6, ↓gI_7, ↓gI_8, ↓gI_9, ↓gI_10, ↓gR_0, ↓gR_1, ↓gR_2, ↓gR_3, ↓gR_4, ↓gR_5, ↓gR_6, ↓gR_7, ↓gR_8, ↓gR_9, ↓gR_10, ↓sL_0, ↓sL_1, ↓sL_2, ↓sL_3, ↓sL_4, ↓sL_5, ↓sL_6, ↓sL_7, ↓sL_8, ↓sL_9, ↓sL_10, ↓rrf_si, ↓rrf_sg, ↓shO_si, ↓shO_sg, ↓shO_sr, ↓shA_si, ↓shA_sg, ↓shA_sr, ↓pAs_0, ↓pAs_i, ↓pAs_r, stk_n, stk_i, stk_l, stk_r, List.nil_append, List.cons_append, true_and, and_true, true_or, or_true, Nat.zero_add, dp_s, Nat.reduceAdd, le8_0, le8_1, le8_2, le8_3, le8_4, le8_5, le8_6, le8_7, le8_8, Classical.not_not, aT40, aT41, aT42, aT44, aT54, aT58, aT59, rT54, rT58, rT59, reduceIte, Nat.reduceEqDiff, qn_42, qn_44, true_implies, not_true_eq_false, not_false_eq_true, false_implies]
  refine k40 (fun hin => ⟨1, rfl, ?_⟩) (fun hin => ⟨0, rfl, ?_⟩)
  · obtain ⟨j, hj, rfl⟩ := inB_of hin (by omega)
    rw [idx_of hj (by omega)] at hk
    rcases t8 q 16 with hq | ⟨q', hq⟩
    · rw [hq] at hk
      have := idx_no hq
      unfold inB at this
      refine vc_X 30 _ _ _ _ _ _ _ ?_
      simp only [↓v111_0, ↓v111_1, ↓v111_4, ↓v111_7, ↓v111_8, ↓v111_11, ↓v111_12, ↓v111_14, ↓v111_17, ↓v111_18, ↓v111_19, ↓v111_20, ↓v111_23, ↓v111_24, ↓v111_26, ↓v111_27, ↓v111_28, ↓v111_29, ↓v111_30, ↓v111_33, ↓qI_c, ↓qL_c, ↓qR_c, ↓pA_o, ↓qC_i, ↓qC_r, ↓oA_s, ↓gI_0, ↓gI_1, ↓gI_2, ↓gI_3, ↓gI_4, ↓gI_5, ↓gI_6, ↓gI_7, ↓gI_8, ↓gI_9, ↓gI_10, ↓gR_0, ↓gR_1, ↓gR_2, ↓gR_3, ↓gR_4, ↓gR_5, ↓gR_6, ↓gR_7, ↓gR_8, ↓gR_9, ↓gR_10, ↓sL_0, ↓sL_1, ↓sL_2, ↓sL_3, ↓sL_4, ↓sL_5, ↓sL_6, ↓sL_7, ↓sL_8, ↓sL_9, ↓sL_10, ↓rrf_si, ↓rrf_sg, ↓shO_si, ↓shO_sg, ↓shO_sr, ↓shA_si, ↓shA_sg, ↓shA_sr, ↓pAs_0, ↓pAs_i, ↓pAs_r, stk_n, stk_i, stk_l, stk_r, List.nil_append, List.cons_append, true_and, and_true, true_or, or_true, Nat.zero_add, dp_s, Nat.reduceAdd, le8_0, le8_1, le8_2, le8_3, le8_4, le8_5, le8_6, le8_7, le8_8, Classical.not_not, aT40, aT41, aT42, aT44, aT54, aT58, aT59, rT54, rT58, rT59, reduceIte, Nat.reduceEqDiff, qn_42, qn_44, true_implies, not_true_eq_false, not_false_eq_true, false_implies, i10, lt_T, le_T, T_0, T_16]
      exact ⟨fun _ => hk, fun c1 => ⟨fun c2 => absurd ⟨by omega, by omega⟩ this, fun _ => hk⟩⟩
    · obtain ⟨rfl, hq2⟩ := idx_n hq
      rw [hq] at hk
      have e3 : nI j * 16 + nI q' = nI (16 * j + q') := by rw [n_16, pk_mul, nI_add]; congr 1; omega
      refine vc_X 30 _ _ _ _ _ _ _ ?_
      simp only [↓v111_0, ↓v111_1, ↓v111_4, ↓v111_7, ↓v111_8, ↓v111_11, ↓v111_12, ↓v111_14, ↓v111_17, ↓v111_18, ↓v111_19, ↓v111_20, ↓v111_23, ↓v111_24, ↓v111_26, ↓v111_27, ↓v111_28, ↓v111_29, ↓v111_30, ↓v111_33, ↓qI_c, ↓qL_c, ↓qR_c, ↓pA_o, ↓qC_i, ↓qC_r, ↓oA_s, ↓gI_0, ↓gI_1, ↓gI_2, ↓gI_3, ↓gI_4, ↓gI_5, ↓gI_6, ↓gI_7, ↓gI_8, ↓gI_9, ↓gI_10, ↓gR_0, ↓gR_1, ↓gR_2, ↓gR_3, ↓gR_4, ↓gR_5, ↓gR_6, ↓gR_7, ↓gR_8, ↓gR_9, ↓gR_10, ↓sL_0, ↓sL_1, ↓sL_2, ↓sL_3, ↓sL_4, ↓sL_5, ↓sL_6, ↓sL_7, ↓sL_8, ↓sL_9, ↓sL_10, ↓rrf_si, ↓rrf_sg, ↓shO_si, ↓shO_sg, ↓shO_sr, ↓shA_si, ↓shA_sg, ↓shA_sr, ↓pAs_0, ↓pAs_i, ↓pAs_r, stk_n, stk_i, stk_l, stk_r, List.nil_append, List.cons_append, true_and, and_true, true_or, or_true, Nat.zero_add, dp_s, Nat.reduceAdd, le8_0, le8_1, le8_2, le8_3, le8_4, le8_5, le8_6, le8_7, le8_8, Classical.not_not, aT40, aT41, aT42, aT44, aT54, aT58, aT59, rT54, rT58, rT59, reduceIte, Nat.reduceEqDiff, qn_42, qn_44, true_implies, not_true_eq_false, not_false_eq_true, false_implies, i10, lt_T, le_T, T_0, T_16, nT (show q' < 2147483648 by omega), ↓shO_of h.1.1.1, ↓rrf_of h.1.1.2.1, ↓shO_of hDs, e3]
      refine ⟨fun c => by omega, fun _ => ⟨fun _ => ?_, fun c => by omega⟩⟩
      refine k28 h.2.1.1 (fun b1 j1 hb hj1 e1 e2 => ⟨_, rfl, ?_⟩) (fun c => ⟨_, rfl, ?_⟩)
      · rw [nI_eq (by omega) (by omega)] at e1
        subst e1
        rw [e2, idx_of hj1 (by omega)] at hk
        refine vc_X 20 _ _ _ _ _ _ _ ?_
        simp only [↓v111_0, ↓v111_1, ↓v111_4, ↓v111_7, ↓v111_8, ↓v111_11, ↓v111_12, ↓v111_14, ↓v111_17, ↓v111_18, ↓v111_19, ↓v111_20, ↓v111_23, ↓v111_24, ↓v111_26, ↓v111_27, ↓v111_28, ↓v111_29, ↓v111_30, ↓v111_33, ↓qI_c, ↓qL_c, ↓qR_c, ↓pA_o, ↓qC_i, ↓qC_r, ↓oA_s, ↓gI_0, ↓gI_1, ↓gI_2, ↓gI_3, ↓gI_4, ↓gI_5, ↓gI_6, ↓gI_7, ↓gI_8, ↓gI_9, ↓gI_10, ↓gR_0, ↓gR_1, ↓gR_2, ↓gR_3, ↓gR_4, ↓gR_5, ↓gR_6, ↓gR_7, ↓gR_8, ↓gR_9, ↓gR_10, ↓sL_0, ↓sL_1, ↓sL_2, ↓sL_3, ↓sL_4, ↓sL_5, ↓sL_6, ↓sL_7, ↓sL_8, ↓sL_9, ↓sL_10, ↓rrf_si, ↓rrf_sg, ↓shO_si, ↓shO_sg, ↓shO_sr, ↓shA_si, ↓shA_sg, ↓shA_sr, ↓pAs_0, ↓pAs_i, ↓pAs_r, stk_n, stk_i, stk_l, stk_r, List.nil_append, List.cons_append, true_and, and_true, true_or, or_true, Nat.zero_add, dp_s, Nat.reduceAdd, le8_0, le8_1, le8_2, le8_3, le8_4, le8_5, le8_6, le8_7, le8_8, Classical.not_not, aT40, aT41, aT42, aT44, aT54, aT58, aT59, rT54, rT58, rT59, reduceIte, Nat.reduceEqDiff, qn_42, qn_44, true_implies, not_true_eq_false, not_false_eq_true, false_implies]
        rw [r.1 _ _ hb hj1]
        exact hk
      · have hi2 : idx i 16 = none := by
          cases he : idx i 16 with
          | none => rfl
          | some j1 => obtain ⟨rfl, hj1⟩ := idx_n he; exact absurd ⟨inB_n (by omega) (by omega), inB_n hj1 (by omega)⟩ c
        rw [hi2] at hk
        refine vc_X 20 _ _ _ _ _ _ _ ?_
        simp only [↓v111_0, ↓v111_1, ↓v111_4, ↓v111_7, ↓v111_8, ↓v111_11, ↓v111_12, ↓v111_14, ↓v111_17, ↓v111_18, ↓v111_19, ↓v111_20, ↓v111_23, ↓v111_24, ↓v111_26, ↓v111_27, ↓v111_28, ↓v111_29, ↓v111_30, ↓v111_33, ↓qI_c, ↓qL_c, ↓qR_c, ↓pA_o, ↓qC_i, ↓qC_r, ↓oA_s, ↓gI_0, ↓gI_1, ↓gI_2, ↓gI_3, ↓gI_4, ↓gI_5, ↓gI_6, ↓gI_7, ↓gI_8, ↓gI_9, ↓gI_10, ↓gR_0, ↓gR_1, ↓gR_2, ↓gR_3, ↓gR_4, ↓gR_5, ↓gR_6, ↓gR_7, ↓gR_8, ↓gR_9, ↓gR_10, ↓sL_0, ↓sL_1, ↓sL_2, ↓sL_3, ↓sL_4, ↓sL_5, ↓sL_6, ↓sL_7, ↓sL_8, ↓sL_9, ↓sL_10, ↓rrf_si, ↓rrf_sg, ↓shO_si, ↓shO_sg, ↓shO_sr, ↓shA_si, ↓shA_sg, ↓shA_sr, ↓pAs_0, ↓pAs_i, ↓pAs_r, stk_n, stk_i, stk_l, stk_r, List.nil_append, List.cons_append, true_and, and_true, true_or, or_true, Nat.zero_add, dp_s, Nat.reduceAdd, le8_0, le8_1, le8_2, le8_3, le8_4, le8_5, le8_6, le8_7, le8_8, Classical.not_not, aT40, aT41, aT42, aT44, aT54, aT58, aT59, rT54, rT58, rT59, reduceIte, Nat.reduceEqDiff, qn_42, qn_44, true_implies, not_true_eq_false, not_false_eq_true, false_implies]
        exact hk
  · have : idx e 8 = none := by
      cases he : idx e 8 with
      | none => rfl
      | some j => obtain ⟨rfl, hj⟩ := idx_n he; exact absurd (inB_n hj (by omega)) hin
    rw [this] at hk
    refine vc_X 20 _ _ _ _ _ _ _ ?_
    simp only [↓v111_0, ↓v111_1, ↓v111_4, ↓v111_7, ↓v111_8, ↓v111_11, ↓v111_12, ↓v111_14, ↓v111_17, ↓v111_18, ↓v111_19, ↓v111_20, ↓v111_23, ↓v111_24, ↓v111_26, ↓v111_27, ↓v111_28, ↓v111_29, ↓v111_30, ↓v111_33, ↓qI_c, ↓qL_c, ↓qR_c, ↓pA_o, ↓qC_i, ↓qC_r, ↓oA_s, ↓gI_0, ↓gI_1, ↓gI_2, ↓gI_3, ↓gI_4, ↓gI_5, ↓gI_6, ↓gI_7, ↓gI_8, ↓gI_9, ↓gI_10, ↓gR_0, ↓gR_1, ↓gR_2, ↓gR_3, ↓gR_4, ↓gR_5, ↓gR_6, ↓gR_7, ↓gR_8, ↓gR_9, ↓gR_10, ↓sL_0, ↓sL_1, ↓sL_2, ↓sL_3, ↓sL_4, ↓sL_5, ↓sL_6, ↓sL_7, ↓sL_8, ↓sL_9, ↓sL_10, ↓rrf_si, ↓rrf_sg, ↓shO_si, ↓shO_sg, ↓shO_sr, ↓shA_si, ↓shA_sg, ↓shA_sr, ↓pAs_0, ↓pAs_i, ↓pAs_r, stk_n, stk_i, stk_l, stk_r, List.nil_append, List.cons_append, true_and, and_true, true_or, or_true, Nat.zero_add, dp_s, Nat.reduceAdd, le8_0, le8_1, le8_2, le8_3, le8_4, le8_5, le8_6, le8_7, le8_8, Classical.not_not, aT40, aT41, aT42, aT44, aT54, aT58, aT59, rT54, rT58, rT59, reduceIte, Nat.reduceEqDiff, qn_42, qn_44, true_implies, not_true_eq_false, not_false_eq_true, false_implies, i00]
    exact hk
theorem c114 {d : Nat} {M : Mm} {k : mQ} {a : Nat} {x : Int32} {q : RecT} (h : ReC M a q) (hk : k (some (.inl (tlI x q))) M) : XC (d + 3) 114 [.inr (some a), .inl x] M k := by
  unfold tlI at hk
  refine k114 h (fun j hj e => ?_) (fun c => ?_)
  · rw [e, idx_of hj (by omega)] at hk
    exact hk
  · have : idx x 18 = none := by
      cases he : idx x 18 with
      | none => rfl
      | some j => obtain ⟨rfl, hj⟩ := idx_n he; exact absurd (inB_n hj (by omega)) c
    rw [this] at hk
    exact hk
theorem c112 {d : Nat} {M : Mm} {k : mQ} {b : Nat} {s : Ms} {x y : Int32} (h : CM M b s) (hk : k (some (.inl (mRcd x y s).1)) M) : XC (d + 4) 112 [.inr (some b), .inl x, .inl y] M k := by
  obtain ⟨D, pm, ws, im, G, a, h, r⟩ := h
  have hDs := h.2.1.1.1.1
  unfold mRcd at hk
  refine xc ?_
  show X (d + 3) 112 0 [some (.inr (some b)), some (.inl x), some (.inl y), none] [] M k
  refine vc_X 20 _ _ _ _ _ _ _ ?_
  simp only [↓v112_0, ↓v112_1, ↓v112_4, ↓v112_5, ↓v112_8, ↓v112_9, ↓v112_10, ↓v112_13, ↓v112_14, ↓v112_17, ↓v112_18, ↓v112_19, ↓v112_22, ↓qI_c, ↓qL_c, ↓qR_c, ↓pA_o, ↓qC_i, ↓qC_r, ↓oA_s, ↓gI_0, ↓gI_1, ↓gI_2, ↓gI_3, ↓gI_4, ↓gI_5, ↓gI_6, ↓gI_7, ↓gI_8, ↓gI_9, ↓gI_10, ↓gR_0, ↓gR_1, ↓gR_2, ↓gR_3, ↓gR_4, ↓gR_5, ↓gR_6, ↓gR_7, ↓gR_8, ↓gR_9, ↓gR_10, ↓sL_0, ↓sL_1, ↓sL_2, ↓sL_3, ↓sL_4, ↓sL_5, ↓sL_6, ↓sL_7, ↓sL_8, ↓sL_9, ↓sL_10, ↓rrf_si, ↓rrf_sg, ↓shO_si, ↓shO_sg, ↓shO_sr, ↓shA_si, ↓shA_sg, ↓shA_sr, ↓pAs_0, ↓pAs_i, ↓pAs_r, stk_n, stk_i, stk_l, stk_r, List.nil_append, List.cons_append, true_and, and_true, true_or, or_true, Nat.zero_add, dp_s, Nat.reduceAdd, le8_0, le8_1, le8_2, le8_3, le8_4, le8_5, le8_6, le8_7, le8_8, Classical.not_not, aT40, aT41, aT42, aT44, aT54, aT58, aT59, rT54, rT58, rT59, reduceIte, Nat.reduceEqDiff, qn_42, qn_44, true_implies, not_true_eq_false, not_false_eq_true, false_implies, ↓shO_of h.1.1.1, ↓rrf_of h.1.1.2.1, ↓shO_of hDs]
  refine k113 h.sl (fun c => ⟨_, rfl, ?_⟩) (fun c => ⟨_, rfl, ?_⟩) (fun c => ⟨_, rfl, ?_⟩)
  · rw [if_pos c, ← r.2.1] at hk
    have r0 := h.sl.2.2.1
    refine vc_X 20 _ _ _ _ _ _ _ ?_
    simp only [↓v112_0, ↓v112_1, ↓v112_4, ↓v112_5, ↓v112_8, ↓v112_9, ↓v112_10, ↓v112_13, ↓v112_14, ↓v112_17, ↓v112_18, ↓v112_19, ↓v112_22, ↓qI_c, ↓qL_c, ↓qR_c, ↓pA_o, ↓qC_i, ↓qC_r, ↓oA_s, ↓gI_0, ↓gI_1, ↓gI_2, ↓gI_3, ↓gI_4, ↓gI_5, ↓gI_6, ↓gI_7, ↓gI_8, ↓gI_9, ↓gI_10, ↓gR_0, ↓gR_1, ↓gR_2, ↓gR_3, ↓gR_4, ↓gR_5, ↓gR_6, ↓gR_7, ↓gR_8, ↓gR_9, ↓gR_10, ↓sL_0, ↓sL_1, ↓sL_2, ↓sL_3, ↓sL_4, ↓sL_5, ↓sL_6, ↓sL_7, ↓sL_8, ↓sL_9, ↓sL_10, ↓rrf_si, ↓rrf_sg, ↓shO_si, ↓shO_sg, ↓shO_sr, ↓shA_si, ↓shA_sg, ↓shA_sr, ↓pAs_0, ↓pAs_i, ↓pAs_r, stk_n, stk_i, stk_l, stk_r, List.nil_append, List.cons_append, true_and, and_true, true_or, or_true, Nat.zero_add, dp_s, Nat.reduceAdd, le8_0, le8_1, le8_2, le8_3, le8_4, le8_5, le8_6, le8_7, le8_8, Classical.not_not, aT40, aT41, aT42, aT44, aT54, aT58, aT59, rT54, rT58, rT59, reduceIte, Nat.reduceEqDiff, qn_42, qn_44, true_implies, not_true_eq_false, not_false_eq_true, false_implies, sn, ↓shO_of r0.1.1]
    refine c114 r0 ⟨_, rfl, ?_⟩
    refine vc_X 20 _ _ _ _ _ _ _ ?_
    simp only [↓v112_0, ↓v112_1, ↓v112_4, ↓v112_5, ↓v112_8, ↓v112_9, ↓v112_10, ↓v112_13, ↓v112_14, ↓v112_17, ↓v112_18, ↓v112_19, ↓v112_22, ↓qI_c, ↓qL_c, ↓qR_c, ↓pA_o, ↓qC_i, ↓qC_r, ↓oA_s, ↓gI_0, ↓gI_1, ↓gI_2, ↓gI_3, ↓gI_4, ↓gI_5, ↓gI_6, ↓gI_7, ↓gI_8, ↓gI_9, ↓gI_10, ↓gR_0, ↓gR_1, ↓gR_2, ↓gR_3, ↓gR_4, ↓gR_5, ↓gR_6, ↓gR_7, ↓gR_8, ↓gR_9, ↓gR_10, ↓sL_0, ↓sL_1, ↓sL_2, ↓sL_3, ↓sL_4, ↓sL_5, ↓sL_6, ↓sL_7, ↓sL_8, ↓sL_9, ↓sL_10, ↓rrf_si, ↓rrf_sg, ↓shO_si, ↓shO_sg, ↓shO_sr, ↓shA_si, ↓shA_sg, ↓shA_sr, ↓pAs_0, ↓pAs_i, ↓pAs_r, stk_n, stk_i, stk_l, stk_r, List.nil_append, List.cons_append, true_and, and_true, true_or, or_true, Nat.zero_add, dp_s, Nat.reduceAdd, le8_0, le8_1, le8_2, le8_3, le8_4, le8_5, le8_6, le8_7, le8_8, Classical.not_not, aT40, aT41, aT42, aT44, aT54, aT58, aT59, rT54, rT58, rT59, reduceIte, Nat.reduceEqDiff, qn_42, qn_44, true_implies, not_true_eq_false, not_false_eq_true, false_implies]
    exact hk
  · rw [if_neg (by rw [c]; decide), if_pos c, ← r.2.2.1] at hk
    cases hd : D.2.2 with
    | none =>
      rw [hd] at hk
      show X _ 112 8 _ [.inr (.inr none)] M k
      refine vc_X 20 _ _ _ _ _ _ _ ?_
      simp only [↓v112_0, ↓v112_1, ↓v112_4, ↓v112_5, ↓v112_8, ↓v112_9, ↓v112_10, ↓v112_13, ↓v112_14, ↓v112_17, ↓v112_18, ↓v112_19, ↓v112_22, ↓qI_c, ↓qL_c, ↓qR_c, ↓pA_o, ↓qC_i, ↓qC_r, ↓oA_s, ↓gI_0, ↓gI_1, ↓gI_2, ↓gI_3, ↓gI_4, ↓gI_5, ↓gI_6, ↓gI_7, ↓gI_8, ↓gI_9, ↓gI_10, ↓gR_0, ↓gR_1, ↓gR_2, ↓gR_3, ↓gR_4, ↓gR_5, ↓gR_6, ↓gR_7, ↓gR_8, ↓gR_9, ↓gR_10, ↓sL_0, ↓sL_1, ↓sL_2, ↓sL_3, ↓sL_4, ↓sL_5, ↓sL_6, ↓sL_7, ↓sL_8, ↓sL_9, ↓sL_10, ↓rrf_si, ↓rrf_sg, ↓shO_si, ↓shO_sg, ↓shO_sr, ↓shA_si, ↓shA_sg, ↓shA_sr, ↓pAs_0, ↓pAs_i, ↓pAs_r, stk_n, stk_i, stk_l, stk_r, List.nil_append, List.cons_append, true_and, and_true, true_or, or_true, Nat.zero_add, dp_s, Nat.reduceAdd, le8_0, le8_1, le8_2, le8_3, le8_4, le8_5, le8_6, le8_7, le8_8, Classical.not_not, aT40, aT41, aT42, aT44, aT54, aT58, aT59, rT54, rT58, rT59, reduceIte, Nat.reduceEqDiff, qn_42, qn_44, true_implies, not_true_eq_false, not_false_eq_true, false_implies]
      refine vc_X 20 _ _ _ _ _ _ _ ?_
      simp only [↓v112_0, ↓v112_1, ↓v112_4, ↓v112_5, ↓v112_8, ↓v112_9, ↓v112_10, ↓v112_13, ↓v112_14, ↓v112_17, ↓v112_18, ↓v112_19, ↓v112_22, ↓qI_c, ↓qL_c, ↓qR_c, ↓pA_o, ↓qC_i, ↓qC_r, ↓oA_s, ↓gI_0, ↓gI_1, ↓gI_2, ↓gI_3, ↓gI_4, ↓gI_5, ↓gI_6, ↓gI_7, ↓gI_8, ↓gI_9, ↓gI_10, ↓gR_0, ↓gR_1, ↓gR_2, ↓gR_3, ↓gR_4, ↓gR_5, ↓gR_6, ↓gR_7, ↓gR_8, ↓gR_9, ↓gR_10, ↓sL_0, ↓sL_1, ↓sL_2, ↓sL_3, ↓sL_4, ↓sL_5, ↓sL_6, ↓sL_7, ↓sL_8, ↓sL_9, ↓sL_10, ↓rrf_si, ↓rrf_sg, ↓shO_si, ↓shO_sg, ↓shO_sr, ↓shA_si, ↓shA_sg, ↓shA_sr, ↓pAs_0, ↓pAs_i, ↓pAs_r, stk_n, stk_i, stk_l, stk_r, List.nil_append, List.cons_append, true_and, and_true, true_or, or_true, Nat.zero_add, dp_s, Nat.reduceAdd, le8_0, le8_1, le8_2, le8_3, le8_4, le8_5, le8_6, le8_7, le8_8, Classical.not_not, aT40, aT41, aT42, aT44, aT54, aT58, aT59, rT54, rT58, rT59, reduceIte, Nat.reduceEqDiff, qn_42, qn_44, true_implies, not_true_eq_false, not_false_eq_true, false_implies]
      exact hk
    | some a1 =>
      rw [hd] at hk
      have r1 := (h.2.1.2.2.2.2 a1 hd).1
      show X _ 112 8 _ [.inr (.inr (some a1))] M k
      refine vc_X 20 _ _ _ _ _ _ _ ?_
      simp only [↓v112_0, ↓v112_1, ↓v112_4, ↓v112_5, ↓v112_8, ↓v112_9, ↓v112_10, ↓v112_13, ↓v112_14, ↓v112_17, ↓v112_18, ↓v112_19, ↓v112_22, ↓qI_c, ↓qL_c, ↓qR_c, ↓pA_o, ↓qC_i, ↓qC_r, ↓oA_s, ↓gI_0, ↓gI_1, ↓gI_2, ↓gI_3, ↓gI_4, ↓gI_5, ↓gI_6, ↓gI_7, ↓gI_8, ↓gI_9, ↓gI_10, ↓gR_0, ↓gR_1, ↓gR_2, ↓gR_3, ↓gR_4, ↓gR_5, ↓gR_6, ↓gR_7, ↓gR_8, ↓gR_9, ↓gR_10, ↓sL_0, ↓sL_1, ↓sL_2, ↓sL_3, ↓sL_4, ↓sL_5, ↓sL_6, ↓sL_7, ↓sL_8, ↓sL_9, ↓sL_10, ↓rrf_si, ↓rrf_sg, ↓shO_si, ↓shO_sg, ↓shO_sr, ↓shA_si, ↓shA_sg, ↓shA_sr, ↓pAs_0, ↓pAs_i, ↓pAs_r, stk_n, stk_i, stk_l, stk_r, List.nil_append, List.cons_append, true_and, and_true, true_or, or_true, Nat.zero_add, dp_s, Nat.reduceAdd, le8_0, le8_1, le8_2, le8_3, le8_4, le8_5, le8_6, le8_7, le8_8, Classical.not_not, aT40, aT41, aT42, aT44, aT54, aT58, aT59, rT54, rT58, rT59, reduceIte, Nat.reduceEqDiff, qn_42, qn_44, true_implies, not_true_eq_false, not_false_eq_true, false_implies, sn, ↓shO_of r1.1.1]
      refine c114 r1 ⟨_, rfl, ?_⟩
      refine vc_X 20 _ _ _ _ _ _ _ ?_
      simp only [↓v112_0, ↓v112_1, ↓v112_4, ↓v112_5, ↓v112_8, ↓v112_9, ↓v112_10, ↓v112_13, ↓v112_14, ↓v112_17, ↓v112_18, ↓v112_19, ↓v112_22, ↓qI_c, ↓qL_c, ↓qR_c, ↓pA_o, ↓qC_i, ↓qC_r, ↓oA_s, ↓gI_0, ↓gI_1, ↓gI_2, ↓gI_3, ↓gI_4, ↓gI_5, ↓gI_6, ↓gI_7, ↓gI_8, ↓gI_9, ↓gI_10, ↓gR_0, ↓gR_1, ↓gR_2, ↓gR_3, ↓gR_4, ↓gR_5, ↓gR_6, ↓gR_7, ↓gR_8, ↓gR_9, ↓gR_10, ↓sL_0, ↓sL_1, ↓sL_2, ↓sL_3, ↓sL_4, ↓sL_5, ↓sL_6, ↓sL_7, ↓sL_8, ↓sL_9, ↓sL_10, ↓rrf_si, ↓rrf_sg, ↓shO_si, ↓shO_sg, ↓shO_sr, ↓shA_si, ↓shA_sg, ↓shA_sr, ↓pAs_0, ↓pAs_i, ↓pAs_r, stk_n, stk_i, stk_l, stk_r, List.nil_append, List.cons_append, true_and, and_true, true_or, or_true, Nat.zero_add, dp_s, Nat.reduceAdd, le8_0, le8_1, le8_2, le8_3, le8_4, le8_5, le8_6, le8_7, le8_8, Classical.not_not, aT40, aT41, aT42, aT44, aT54, aT58, aT59, rT54, rT58, rT59, reduceIte, Nat.reduceEqDiff, qn_42, qn_44, true_implies, not_true_eq_false, not_false_eq_true, false_implies]
      exact hk
  · rw [if_neg (fun e => c (by rw [e]; exact inB_n (j := 0) (by omega) (by omega))), if_neg (fun e => c (by rw [e]; exact inB_n (j := 1) (by omega) (by omega)))] at hk
    refine vc_X 20 _ _ _ _ _ _ _ ?_
    simp only [↓v112_0, ↓v112_1, ↓v112_4, ↓v112_5, ↓v112_8, ↓v112_9, ↓v112_10, ↓v112_13, ↓v112_14, ↓v112_17, ↓v112_18, ↓v112_19, ↓v112_22, ↓qI_c, ↓qL_c, ↓qR_c, ↓pA_o, ↓qC_i, ↓qC_r, ↓oA_s, ↓gI_0, ↓gI_1, ↓gI_2, ↓gI_3, ↓gI_4, ↓gI_5, ↓gI_6, ↓gI_7, ↓gI_8, ↓gI_9, ↓gI_10, ↓gR_0, ↓gR_1, ↓gR_2, ↓gR_3, ↓gR_4, ↓gR_5, ↓gR_6, ↓gR_7, ↓gR_8, ↓gR_9, ↓gR_10, ↓sL_0, ↓sL_1, ↓sL_2, ↓sL_3, ↓sL_4, ↓sL_5, ↓sL_6, ↓sL_7, ↓sL_8, ↓sL_9, ↓sL_10, ↓rrf_si, ↓rrf_sg, ↓shO_si, ↓shO_sg, ↓shO_sr, ↓shA_si, ↓shA_sg, ↓shA_sr, ↓pAs_0, ↓pAs_i, ↓pAs_r, stk_n, stk_i, stk_l, stk_r, List.nil_append, List.cons_append, true_and, and_true, true_or, or_true, Nat.zero_add, dp_s, Nat.reduceAdd, le8_0, le8_1, le8_2, le8_3, le8_4, le8_5, le8_6, le8_7, le8_8, Classical.not_not, aT40, aT41, aT42, aT44, aT54, aT58, aT59, rT54, rT58, rT59, reduceIte, Nat.reduceEqDiff, qn_42, qn_44, true_implies, not_true_eq_false, not_false_eq_true, false_implies]
    refine vc_X 20 _ _ _ _ _ _ _ ?_
    simp only [↓v112_0, ↓v112_1, ↓v112_4, ↓v112_5, ↓v112_8, ↓v112_9, ↓v112_10, ↓v112_13, ↓v112_14, ↓v112_17, ↓v112_18, ↓v112_19, ↓v112_22, ↓qI_c, ↓qL_c, ↓qR_c, ↓pA_o, ↓qC_i, ↓qC_r, ↓oA_s, ↓gI_0, ↓gI_1, ↓gI_2, ↓gI_3, ↓gI_4, ↓gI_5, ↓gI_6, ↓gI_7, ↓gI_8, ↓gI_9, ↓gI_10, ↓gR_0, ↓gR_1, ↓gR_2, ↓gR_3, ↓gR_4, ↓gR_5, ↓gR_6, ↓gR_7, ↓gR_8, ↓gR_9, ↓gR_10, ↓sL_0, ↓sL_1, ↓sL_2, ↓sL_3, ↓sL_4, ↓sL_5, ↓sL_6, ↓sL_7, ↓sL_8, ↓sL_9, ↓sL_10, ↓rrf_si, ↓rrf_sg, ↓shO_si, ↓shO_sg, ↓shO_sr, ↓shA_si, ↓shA_sg, ↓shA_sr, ↓pAs_0, ↓pAs_i, ↓pAs_r, stk_n, stk_i, stk_l, stk_r, List.nil_append, List.cons_append, true_and, and_true, true_or, or_true, Nat.zero_add, dp_s, Nat.reduceAdd, le8_0, le8_1, le8_2, le8_3, le8_4, le8_5, le8_6, le8_7, le8_8, Classical.not_not, aT40, aT41, aT42, aT44, aT54, aT58, aT59, rT54, rT58, rT59, reduceIte, Nat.reduceEqDiff, qn_42, qn_44, true_implies, not_true_eq_false, not_false_eq_true, false_implies]
    exact hk
theorem c108 {d c : Nat} {M : Mm} {k : mQ} {b : Nat} {s : Ms} {x y : Int32} (h : CM M b s) (hi : IvS c s) (hk : k (some (.inl (mWai x y s).1)) M) : XC (d + 3) 108 [.inr (some b), .inl x, .inl y] M k := by
  obtain ⟨D, pm, ws, im, G, a, h, r⟩ := h
  have hq : QuC M (b + 7) pm s.md ws := h.2.2.1.1
  have hlen := r.2.2.2.1.1
  have hl := hq.2.2.1
  unfold mWai at hk
  refine xc ?_
  show X (d + 2) 108 0 [some (.inr (some b)), some (.inl x), some (.inl y), none] [] M k
  refine vc_X 20 _ _ _ _ _ _ _ ?_
  simp only [↓v108_0, ↓v108_1, ↓v108_4, ↓v108_5, ↓v108_8, ↓v108_9, ↓v108_10, ↓v108_13, ↓v108_14, ↓v108_15, ↓v108_16, ↓v108_44, ↓v108_45, ↓v108_48, ↓v108_49, ↓v108_50, ↓v108_53, ↓v108_54, ↓v108_55, ↓v108_58, ↓v108_59, ↓v108_60, ↓qI_c, ↓qL_c, ↓qR_c, ↓pA_o, ↓qC_i, ↓qC_r, ↓oA_s, ↓gI_0, ↓gI_1, ↓gI_2, ↓gI_3, ↓gI_4, ↓gI_5, ↓gI_6, ↓gI_7, ↓gI_8, ↓gI_9, ↓gI_10, ↓gR_0, ↓gR_1, ↓gR_2, ↓gR_3, ↓gR_4, ↓gR_5, ↓gR_6, ↓gR_7, ↓gR_8, ↓gR_9, ↓gR_10, ↓sL_0, ↓sL_1, ↓sL_2, ↓sL_3, ↓sL_4, ↓sL_5, ↓sL_6, ↓sL_7, ↓sL_8, ↓sL_9, ↓sL_10, ↓rrf_si, ↓rrf_sg, ↓shO_si, ↓shO_sg, ↓shO_sr, ↓shA_si, ↓shA_sg, ↓shA_sr, ↓pAs_0, ↓pAs_i, ↓pAs_r, stk_n, stk_i, stk_l, stk_r, List.nil_append, List.cons_append, true_and, and_true, true_or, or_true, Nat.zero_add, dp_s, Nat.reduceAdd, le8_0, le8_1, le8_2, le8_3, le8_4, le8_5, le8_6, le8_7, le8_8, Classical.not_not, aT40, aT41, aT42, aT44, aT54, aT58, aT59, rT54, rT58, rT59, reduceIte, Nat.reduceEqDiff, qn_42, qn_44, true_implies, not_true_eq_false, not_false_eq_true, false_implies, ↓shO_of h.1.1.1, ↓rrf_of h.1.1.2.2.1, ↓shO_of hq.1.1]
  refine k74 hq (fun j z ej hj => ⟨_, rfl, ?_⟩) (fun c => ⟨_, rfl, ?_⟩)
  · obtain ⟨w, hw, rx⟩ := r.2.2.2.1.at' hj
    have hjl := (List.getElem?_eq_some_iff.mp hw).1
    rw [ej, idx_of hjl (by omega)] at hk
    have hk : k (some (.inl (wai y s.ws s.ws[j]?))) M := hk
    rw [hw] at hk
    have hk : k (some (.inl (if y = 0 then nI w.n else if y = 1 then nI w.t else if y = 2 then nI (lfM s.ws w) else -1))) M := hk
    obtain ⟨-, wz⟩ := hq.2.2.2.2.2 j z hj
    refine vc_X 30 _ _ _ _ _ _ _ ?_
    simp only [↓v108_0, ↓v108_1, ↓v108_4, ↓v108_5, ↓v108_8, ↓v108_9, ↓v108_10, ↓v108_13, ↓v108_14, ↓v108_15, ↓v108_16, ↓v108_44, ↓v108_45, ↓v108_48, ↓v108_49, ↓v108_50, ↓v108_53, ↓v108_54, ↓v108_55, ↓v108_58, ↓v108_59, ↓v108_60, ↓qI_c, ↓qL_c, ↓qR_c, ↓pA_o, ↓qC_i, ↓qC_r, ↓oA_s, ↓gI_0, ↓gI_1, ↓gI_2, ↓gI_3, ↓gI_4, ↓gI_5, ↓gI_6, ↓gI_7, ↓gI_8, ↓gI_9, ↓gI_10, ↓gR_0, ↓gR_1, ↓gR_2, ↓gR_3, ↓gR_4, ↓gR_5, ↓gR_6, ↓gR_7, ↓gR_8, ↓gR_9, ↓gR_10, ↓sL_0, ↓sL_1, ↓sL_2, ↓sL_3, ↓sL_4, ↓sL_5, ↓sL_6, ↓sL_7, ↓sL_8, ↓sL_9, ↓sL_10, ↓rrf_si, ↓rrf_sg, ↓shO_si, ↓shO_sg, ↓shO_sr, ↓shA_si, ↓shA_sg, ↓shA_sr, ↓pAs_0, ↓pAs_i, ↓pAs_r, stk_n, stk_i, stk_l, stk_r, List.nil_append, List.cons_append, true_and, and_true, true_or, or_true, Nat.zero_add, dp_s, Nat.reduceAdd, le8_0, le8_1, le8_2, le8_3, le8_4, le8_5, le8_6, le8_7, le8_8, Classical.not_not, aT40, aT41, aT42, aT44, aT54, aT58, aT59, rT54, rT58, rT59, reduceIte, Nat.reduceEqDiff, qn_42, qn_44, true_implies, not_true_eq_false, not_false_eq_true, false_implies, sn, ↓shO_of wz.1.1, wz.2.1, wz.2.2.1]
    rw [rx.1, rx.2.1]
    refine ⟨fun c => ?_, fun c0 => ⟨fun c => ?_, fun c1 => ⟨fun c => ?_, fun c2 => ?_⟩⟩⟩
    · rw [if_pos ((eq_T y 0).mpr c)] at hk
      exact hk
    · rw [if_neg (fun q => c0 ((eq_T y 0).mp q)), if_pos ((eq_T y 1).mpr c)] at hk
      exact hk
    · rw [if_neg (fun q => c0 ((eq_T y 0).mp q)), if_neg (fun q => c1 ((eq_T y 1).mp q)), if_pos ((eq_T y 2).mpr c)] at hk
      refine k94 wz ⟨_, rfl, ?_⟩
      rw [r.2.2.2.1.left h.pm hl hj hw]
      refine vc_X 20 _ _ _ _ _ _ _ ?_
      simp only [↓v108_0, ↓v108_1, ↓v108_4, ↓v108_5, ↓v108_8, ↓v108_9, ↓v108_10, ↓v108_13, ↓v108_14, ↓v108_15, ↓v108_16, ↓v108_44, ↓v108_45, ↓v108_48, ↓v108_49, ↓v108_50, ↓v108_53, ↓v108_54, ↓v108_55, ↓v108_58, ↓v108_59, ↓v108_60, ↓qI_c, ↓qL_c, ↓qR_c, ↓pA_o, ↓qC_i, ↓qC_r, ↓oA_s, ↓gI_0, ↓gI_1, ↓gI_2, ↓gI_3, ↓gI_4, ↓gI_5, ↓gI_6, ↓gI_7, ↓gI_8, ↓gI_9, ↓gI_10, ↓gR_0, ↓gR_1, ↓gR_2, ↓gR_3, ↓gR_4, ↓gR_5, ↓gR_6, ↓gR_7, ↓gR_8, ↓gR_9, ↓gR_10, ↓sL_0, ↓sL_1, ↓sL_2, ↓sL_3, ↓sL_4, ↓sL_5, ↓sL_6, ↓sL_7, ↓sL_8, ↓sL_9, ↓sL_10, ↓rrf_si, ↓rrf_sg, ↓shO_si, ↓shO_sg, ↓shO_sr, ↓shA_si, ↓shA_sg, ↓shA_sr, ↓pAs_0, ↓pAs_i, ↓pAs_r, stk_n, stk_i, stk_l, stk_r, List.nil_append, List.cons_append, true_and, and_true, true_or, or_true, Nat.zero_add, dp_s, Nat.reduceAdd, le8_0, le8_1, le8_2, le8_3, le8_4, le8_5, le8_6, le8_7, le8_8, Classical.not_not, aT40, aT41, aT42, aT44, aT54, aT58, aT59, rT54, rT58, rT59, reduceIte, Nat.reduceEqDiff, qn_42, qn_44, true_implies, not_true_eq_false, not_false_eq_true, false_implies]
      exact hk
    · rw [if_neg (fun q => c0 ((eq_T y 0).mp q)), if_neg (fun q => c1 ((eq_T y 1).mp q)), if_neg (fun q => c2 ((eq_T y 2).mp q))] at hk
      exact hk
  · have hx : idx x s.ws.length = none := by
      cases he : idx x s.ws.length with
      | none => rfl
      | some j => obtain ⟨rfl, hj⟩ := idx_n he; exact absurd (inB_n (by rw [hlen]; exact hj) (by omega)) c
    rw [hx] at hk
    refine vc_X 20 _ _ _ _ _ _ _ ?_
    simp only [↓v108_0, ↓v108_1, ↓v108_4, ↓v108_5, ↓v108_8, ↓v108_9, ↓v108_10, ↓v108_13, ↓v108_14, ↓v108_15, ↓v108_16, ↓v108_44, ↓v108_45, ↓v108_48, ↓v108_49, ↓v108_50, ↓v108_53, ↓v108_54, ↓v108_55, ↓v108_58, ↓v108_59, ↓v108_60, ↓qI_c, ↓qL_c, ↓qR_c, ↓pA_o, ↓qC_i, ↓qC_r, ↓oA_s, ↓gI_0, ↓gI_1, ↓gI_2, ↓gI_3, ↓gI_4, ↓gI_5, ↓gI_6, ↓gI_7, ↓gI_8, ↓gI_9, ↓gI_10, ↓gR_0, ↓gR_1, ↓gR_2, ↓gR_3, ↓gR_4, ↓gR_5, ↓gR_6, ↓gR_7, ↓gR_8, ↓gR_9, ↓gR_10, ↓sL_0, ↓sL_1, ↓sL_2, ↓sL_3, ↓sL_4, ↓sL_5, ↓sL_6, ↓sL_7, ↓sL_8, ↓sL_9, ↓sL_10, ↓rrf_si, ↓rrf_sg, ↓shO_si, ↓shO_sg, ↓shO_sr, ↓shA_si, ↓shA_sg, ↓shA_sr, ↓pAs_0, ↓pAs_i, ↓pAs_r, stk_n, stk_i, stk_l, stk_r, List.nil_append, List.cons_append, true_and, and_true, true_or, or_true, Nat.zero_add, dp_s, Nat.reduceAdd, le8_0, le8_1, le8_2, le8_3, le8_4, le8_5, le8_6, le8_7, le8_8, Classical.not_not, aT40, aT41, aT42, aT44, aT54, aT58, aT59, rT54, rT58, rT59, reduceIte, Nat.reduceEqDiff, qn_42, qn_44, true_implies, not_true_eq_false, not_false_eq_true, false_implies]
    exact hk
theorem mkT_iff {dk : Nat → Nat} {ws : List WT} {tb : TbT} {j : Nat} : ∀ n, mkT dk ws tb n j = true ↔ ∃ k, k < n ∧ mkA dk ws ((tb[k]?).map Prod.fst) j = true
  | 0 => ⟨fun h => (by cases h), fun ⟨k, hk, _⟩ => (by omega)⟩
  | n + 1 => by
    show (mkT dk ws tb n j || mkA dk ws ((tb[n]?).map Prod.fst) j) = true ↔ _
    rw [Bool.or_eq_true, mkT_iff n]
    constructor
    · intro h
      rcases h with ⟨k, h1, h2⟩ | h1
      · exact ⟨k, by omega, h2⟩
      · exact ⟨n, by omega, h1⟩
    · intro ⟨k, h1, h2⟩
      by_cases c : k = n
      · subst c; exact Or.inr h2
      · exact Or.inl ⟨k, by omega, h2⟩
theorem CR.lv {c : Nat} {s : Ms} {D : DT} {pm : Nat → Nat} {ws : List WT} {G : Nat → RecT} {a : Nat} (r : CR s D pm ws G a) (hi : IvS c s) (hp : ∀ k p, k < 48 → plO s.ch s.tb (some k) = some p → p < 128) (ht : ∀ z ∈ s.tb, z.1 < 128) (j : Nat) : lvM D.1 ws s.ch s.tb j = lvB s j := by
  unfold lvM lvB
  have e1 : mkK D.1 ws (fun k => plO s.ch s.tb (some k)) 48 j = mkB s.V (fun k => plO s.ch s.tb (some k)) j := r.2.2.2.1.mkK_ hi.nb hi.bt r.1 (fun k p hk h => by
    refine hp k p hk ?_
    have h : noG (plO s.ch s.tb (some k)) = some p := h
    unfold plO at h ⊢
    rw [noG_noG] at h
    exact h) j
  rw [e1]
  congr 1
  rw [Bool.eq_iff_iff, mkT_iff, List.any_eq_true]
  constructor
  · intro ⟨k, hk, h⟩
    rw [List.getElem?_eq_getElem hk] at h
    have h : decide (s.tb[k].1 ≤ j ∧ j < s.tb[k].1 + nbA D.1 ws s.tb[k].1) = true := h
    rw [decide_eq_true_eq, r.2.2.2.1.nb_ hi.nb hi.bt r.1 (ht _ (List.getElem_mem hk))] at h
    refine ⟨s.tb[k], List.getElem_mem hk, ?_⟩
    rw [Bool.and_eq_true, decide_eq_true_eq, decide_eq_true_eq]
    exact h
  · intro ⟨z, hz, h⟩
    obtain ⟨k, hk⟩ := List.mem_iff_getElem?.mp hz
    refine ⟨k, (List.getElem?_eq_some_iff.mp hk).1, ?_⟩
    rw [hk]
    show decide (z.1 ≤ j ∧ j < z.1 + nbA D.1 ws z.1) = true
    rw [Bool.and_eq_true, decide_eq_true_eq, decide_eq_true_eq] at h
    rw [decide_eq_true_eq, r.2.2.2.1.nb_ hi.nb hi.bt r.1 (ht _ hz)]
    exact h
theorem c109 {d c : Nat} {M : Mm} {k : mQ} {b : Nat} {s : Ms} {x y : Int32} (h : CM M b s) (hi : IvS c s) (hk : ∀ M', CM M' b s → Fr b M M' → k (some (.inl (mExt x y s).1)) M') : XC (d + 7) 109 [.inr (some b), .inl x, .inl y] M k := by
  have h0 := h
  obtain ⟨D, pm, ws, im, G, a, h, r⟩ := h
  have f18 : M.it b 18 = bI s.off := h.f18
  have hL : LaC M (b + 251) (b + 252) s.pt s.op := h.2.2.2.2.1
  unfold mExt at hk
  refine xc ?_
  show X (d + 6) 109 0 [some (.inr (some b)), some (.inl x), some (.inl y)] [] M k
  cases ho : s.off with
  | true =>
    rw [ho, bI_t] at f18
    refine vc_X 20 _ _ _ _ _ _ _ ?_
    simp only [↓v109_0, ↓v109_1, ↓v109_4, ↓v109_7, ↓v109_8, ↓v109_11, ↓v109_14, ↓v109_15, ↓v109_16, ↓v109_17, ↓v109_44, ↓v109_45, ↓v109_48, ↓v109_51, ↓v109_52, ↓v109_53, ↓v109_54, ↓v109_55, ↓v109_56, ↓v109_59, ↓v109_60, ↓v109_61, ↓qI_c, ↓qL_c, ↓qR_c, ↓pA_o, ↓qC_i, ↓qC_r, ↓oA_s, ↓gI_0, ↓gI_1, ↓gI_2, ↓gI_3, ↓gI_4, ↓gI_5, ↓gI_6, ↓gI_7, ↓gI_8, ↓gI_9, ↓gI_10, ↓gR_0, ↓gR_1, ↓gR_2, ↓gR_3, ↓gR_4, ↓gR_5, ↓gR_6, ↓gR_7, ↓gR_8, ↓gR_9, ↓gR_10, ↓sL_0, ↓sL_1, ↓sL_2, ↓sL_3, ↓sL_4, ↓sL_5, ↓sL_6, ↓sL_7, ↓sL_8, ↓sL_9, ↓sL_10, ↓rrf_si, ↓rrf_sg, ↓shO_si, ↓shO_sg, ↓shO_sr, ↓shA_si, ↓shA_sg, ↓shA_sr, ↓pAs_0, ↓pAs_i, ↓pAs_r, stk_n, stk_i, stk_l, stk_r, List.nil_append, List.cons_append, true_and, and_true, true_or, or_true, Nat.zero_add, dp_s, Nat.reduceAdd, le8_0, le8_1, le8_2, le8_3, le8_4, le8_5, le8_6, le8_7, le8_8, Classical.not_not, aT40, aT41, aT42, aT44, aT54, aT58, aT59, rT54, rT58, rT59, reduceIte, Nat.reduceEqDiff, qn_42, qn_44, true_implies, not_true_eq_false, not_false_eq_true, false_implies, ↓shO_of h.1.1.1, f18, i10]
    have hk := hk M h0 Fr.rf_
    cases he : idx x 8 with
    | none => rw [he] at hk; exact hk
    | some j =>
      rw [he] at hk
      have hk : k (some (.inl (if s.off = true then -1 else exN y s j))) M := hk
      rw [if_pos ho] at hk
      exact hk
  | false =>
    rw [ho, bI_f] at f18
    refine vc_X 20 _ _ _ _ _ _ _ ?_
    simp only [↓v109_0, ↓v109_1, ↓v109_4, ↓v109_7, ↓v109_8, ↓v109_11, ↓v109_14, ↓v109_15, ↓v109_16, ↓v109_17, ↓v109_44, ↓v109_45, ↓v109_48, ↓v109_51, ↓v109_52, ↓v109_53, ↓v109_54, ↓v109_55, ↓v109_56, ↓v109_59, ↓v109_60, ↓v109_61, ↓qI_c, ↓qL_c, ↓qR_c, ↓pA_o, ↓qC_i, ↓qC_r, ↓oA_s, ↓gI_0, ↓gI_1, ↓gI_2, ↓gI_3, ↓gI_4, ↓gI_5, ↓gI_6, ↓gI_7, ↓gI_8, ↓gI_9, ↓gI_10, ↓gR_0, ↓gR_1, ↓gR_2, ↓gR_3, ↓gR_4, ↓gR_5, ↓gR_6, ↓gR_7, ↓gR_8, ↓gR_9, ↓gR_10, ↓sL_0, ↓sL_1, ↓sL_2, ↓sL_3, ↓sL_4, ↓sL_5, ↓sL_6, ↓sL_7, ↓sL_8, ↓sL_9, ↓sL_10, ↓rrf_si, ↓rrf_sg, ↓shO_si, ↓shO_sg, ↓shO_sr, ↓shA_si, ↓shA_sg, ↓shA_sr, ↓pAs_0, ↓pAs_i, ↓pAs_r, stk_n, stk_i, stk_l, stk_r, List.nil_append, List.cons_append, true_and, and_true, true_or, or_true, Nat.zero_add, dp_s, Nat.reduceAdd, le8_0, le8_1, le8_2, le8_3, le8_4, le8_5, le8_6, le8_7, le8_8, Classical.not_not, aT40, aT41, aT42, aT44, aT54, aT58, aT59, rT54, rT58, rT59, reduceIte, Nat.reduceEqDiff, qn_42, qn_44, true_implies, not_true_eq_false, not_false_eq_true, false_implies, ↓shO_of h.1.1.1, f18, i00]
    refine k40 (fun hin => ⟨1, rfl, ?_⟩) (fun hin => ⟨0, rfl, ?_⟩)
    · obtain ⟨j, hj, rfl⟩ := inB_of hin (by omega)
      rw [idx_of hj (by omega)] at hk
      have hk : ∀ M', CM M' b s → Fr b M M' → k (some (.inl (if s.off = true then -1 else exN y s j))) M' := hk
      rw [if_neg (by rw [ho]; decide)] at hk
      unfold exN at hk
      refine vc_X 40 _ _ _ _ _ _ _ ?_
      simp only [↓v109_0, ↓v109_1, ↓v109_4, ↓v109_7, ↓v109_8, ↓v109_11, ↓v109_14, ↓v109_15, ↓v109_16, ↓v109_17, ↓v109_44, ↓v109_45, ↓v109_48, ↓v109_51, ↓v109_52, ↓v109_53, ↓v109_54, ↓v109_55, ↓v109_56, ↓v109_59, ↓v109_60, ↓v109_61, ↓qI_c, ↓qL_c, ↓qR_c, ↓pA_o, ↓qC_i, ↓qC_r, ↓oA_s, ↓gI_0, ↓gI_1, ↓gI_2, ↓gI_3, ↓gI_4, ↓gI_5, ↓gI_6, ↓gI_7, ↓gI_8, ↓gI_9, ↓gI_10, ↓gR_0, ↓gR_1, ↓gR_2, ↓gR_3, ↓gR_4, ↓gR_5, ↓gR_6, ↓gR_7, ↓gR_8, ↓gR_9, ↓gR_10, ↓sL_0, ↓sL_1, ↓sL_2, ↓sL_3, ↓sL_4, ↓sL_5, ↓sL_6, ↓sL_7, ↓sL_8, ↓sL_9, ↓sL_10, ↓rrf_si, ↓rrf_sg, ↓shO_si, ↓shO_sg, ↓shO_sr, ↓shA_si, ↓shA_sg, ↓shA_sr, ↓pAs_0, ↓pAs_i, ↓pAs_r, stk_n, stk_i, stk_l, stk_r, List.nil_append, List.cons_append, true_and, and_true, true_or, or_true, Nat.zero_add, dp_s, Nat.reduceAdd, le8_0, le8_1, le8_2, le8_3, le8_4, le8_5, le8_6, le8_7, le8_8, Classical.not_not, aT40, aT41, aT42, aT44, aT54, aT58, aT59, rT54, rT58, rT59, reduceIte, Nat.reduceEqDiff, qn_42, qn_44, true_implies, not_true_eq_false, not_false_eq_true, false_implies, i10, ↓shO_of h.1.1.1, ↓rrf_of h.1.1.2.2.2.2.1, ↓shO_of hL.1.1, ↓rrf_of hL.1.2.1, ↓shA_of hL.1.2.2, nC (show j < 2147483648 by omega), (hL.2.1 j hj).1]
      refine ⟨fun c => ?_, fun c0 => ⟨fun c => ?_, fun c1 => ?_⟩⟩
      · rw [if_pos ((eq_T y 0).mpr c)] at hk
        exact ⟨hin, hk M h0 Fr.rf_⟩
      · rw [if_neg (fun q => c0 ((eq_T y 0).mp q)), if_pos ((eq_T y 1).mpr c)] at hk
        have hI := h.2.2.2.2.2.1
        refine k110 (Q := (pm, s.md, ws)) (I := (im, s.I)) h (r.ok hi) hj (fun M1 h1 o1 => ⟨_, rfl, ?_⟩)
        have e2 : cnt (fun i => lvM D.1 ws s.ch s.tb (16 * j + i)) 16 = cnt (fun i => lvB s (16 * j + i)) 16 := cnt_congr 16 (fun i _ => r.lv hi (fun k p hk hp => plO_lt hI hk hp) (fun z hz => by
          obtain ⟨t, ht⟩ := List.mem_iff_getElem?.mp hz
          exact (hI.2.2.2.2 t z ht).2) _)
        have e2 : cnt (fun i => lvM D.1 (pm, s.md, ws).2.2 (im, s.I).2.1 (im, s.I).2.2 (16 * j + i)) 16 = cnt (fun i => lvB s (16 * j + i)) 16 := e2
        rw [e2]
        refine vc_X 20 _ _ _ _ _ _ _ ?_
        simp only [↓v109_0, ↓v109_1, ↓v109_4, ↓v109_7, ↓v109_8, ↓v109_11, ↓v109_14, ↓v109_15, ↓v109_16, ↓v109_17, ↓v109_44, ↓v109_45, ↓v109_48, ↓v109_51, ↓v109_52, ↓v109_53, ↓v109_54, ↓v109_55, ↓v109_56, ↓v109_59, ↓v109_60, ↓v109_61, ↓qI_c, ↓qL_c, ↓qR_c, ↓pA_o, ↓qC_i, ↓qC_r, ↓oA_s, ↓gI_0, ↓gI_1, ↓gI_2, ↓gI_3, ↓gI_4, ↓gI_5, ↓gI_6, ↓gI_7, ↓gI_8, ↓gI_9, ↓gI_10, ↓gR_0, ↓gR_1, ↓gR_2, ↓gR_3, ↓gR_4, ↓gR_5, ↓gR_6, ↓gR_7, ↓gR_8, ↓gR_9, ↓gR_10, ↓sL_0, ↓sL_1, ↓sL_2, ↓sL_3, ↓sL_4, ↓sL_5, ↓sL_6, ↓sL_7, ↓sL_8, ↓sL_9, ↓sL_10, ↓rrf_si, ↓rrf_sg, ↓shO_si, ↓shO_sg, ↓shO_sr, ↓shA_si, ↓shA_sg, ↓shA_sr, ↓pAs_0, ↓pAs_i, ↓pAs_r, stk_n, stk_i, stk_l, stk_r, List.nil_append, List.cons_append, true_and, and_true, true_or, or_true, Nat.zero_add, dp_s, Nat.reduceAdd, le8_0, le8_1, le8_2, le8_3, le8_4, le8_5, le8_6, le8_7, le8_8, Classical.not_not, aT40, aT41, aT42, aT44, aT54, aT58, aT59, rT54, rT58, rT59, reduceIte, Nat.reduceEqDiff, qn_42, qn_44, true_implies, not_true_eq_false, not_false_eq_true, false_implies]
        exact hk M1 ⟨D, pm, ws, im, G, a, h1, r⟩ (o1.fr (fun x hx => by simp at hx; omega))
      · rw [if_neg (fun q => c0 ((eq_T y 0).mp q)), if_neg (fun q => c1 ((eq_T y 1).mp q))] at hk
        exact hk M h0 Fr.rf_
    · have hx : idx x 8 = none := by
        cases he : idx x 8 with
        | none => rfl
        | some j => obtain ⟨rfl, hj⟩ := idx_n he; exact absurd (inB_n hj (by omega)) hin
      rw [hx] at hk
      refine vc_X 20 _ _ _ _ _ _ _ ?_
      simp only [↓v109_0, ↓v109_1, ↓v109_4, ↓v109_7, ↓v109_8, ↓v109_11, ↓v109_14, ↓v109_15, ↓v109_16, ↓v109_17, ↓v109_44, ↓v109_45, ↓v109_48, ↓v109_51, ↓v109_52, ↓v109_53, ↓v109_54, ↓v109_55, ↓v109_56, ↓v109_59, ↓v109_60, ↓v109_61, ↓qI_c, ↓qL_c, ↓qR_c, ↓pA_o, ↓qC_i, ↓qC_r, ↓oA_s, ↓gI_0, ↓gI_1, ↓gI_2, ↓gI_3, ↓gI_4, ↓gI_5, ↓gI_6, ↓gI_7, ↓gI_8, ↓gI_9, ↓gI_10, ↓gR_0, ↓gR_1, ↓gR_2, ↓gR_3, ↓gR_4, ↓gR_5, ↓gR_6, ↓gR_7, ↓gR_8, ↓gR_9, ↓gR_10, ↓sL_0, ↓sL_1, ↓sL_2, ↓sL_3, ↓sL_4, ↓sL_5, ↓sL_6, ↓sL_7, ↓sL_8, ↓sL_9, ↓sL_10, ↓rrf_si, ↓rrf_sg, ↓shO_si, ↓shO_sg, ↓shO_sr, ↓shA_si, ↓shA_sg, ↓shA_sr, ↓pAs_0, ↓pAs_i, ↓pAs_r, stk_n, stk_i, stk_l, stk_r, List.nil_append, List.cons_append, true_and, and_true, true_or, or_true, Nat.zero_add, dp_s, Nat.reduceAdd, le8_0, le8_1, le8_2, le8_3, le8_4, le8_5, le8_6, le8_7, le8_8, Classical.not_not, aT40, aT41, aT42, aT44, aT54, aT58, aT59, rT54, rT58, rT59, reduceIte, Nat.reduceEqDiff, qn_42, qn_44, true_implies, not_true_eq_false, not_false_eq_true, false_implies, i00]
      exact hk M h0 Fr.rf_
theorem c105 {d : Nat} {M : Mm} {k : mQ} {x : Int32} (hk : k (some (.inl (if 1 ≤ x.toInt ∧ x.toInt ≤ 10 ∧ x ≠ 4 then 0 else -1))) M) : XC (d + 1) 105 [.inl x] M k := by
  refine xc ?_
  show X d 105 0 [some (.inl x)] [] M k
  refine vc_X 30 _ _ _ _ _ _ _ ?_
  simp only [↓v105_0, ↓v105_1, ↓v105_2, ↓v105_5, ↓v105_6, ↓v105_8, ↓v105_11, ↓v105_12, ↓v105_13, ↓v105_16, ↓v105_17, ↓v105_20, ↓v105_21, ↓qI_c, ↓qL_c, ↓qR_c, ↓pA_o, ↓qC_i, ↓qC_r, ↓oA_s, ↓gI_0, ↓gI_1, ↓gI_2, ↓gI_3, ↓gI_4, ↓gI_5, ↓gI_6, ↓gI_7, ↓gI_8, ↓gI_9, ↓gI_10, ↓gR_0, ↓gR_1, ↓gR_2, ↓gR_3, ↓gR_4, ↓gR_5, ↓gR_6, ↓gR_7, ↓gR_8, ↓gR_9, ↓gR_10, ↓sL_0, ↓sL_1, ↓sL_2, ↓sL_3, ↓sL_4, ↓sL_5, ↓sL_6, ↓sL_7, ↓sL_8, ↓sL_9, ↓sL_10, ↓rrf_si, ↓rrf_sg, ↓shO_si, ↓shO_sg, ↓shO_sr, ↓shA_si, ↓shA_sg, ↓shA_sr, ↓pAs_0, ↓pAs_i, ↓pAs_r, stk_n, stk_i, stk_l, stk_r, List.nil_append, List.cons_append, true_and, and_true, true_or, or_true, Nat.zero_add, dp_s, Nat.reduceAdd, le8_0, le8_1, le8_2, le8_3, le8_4, le8_5, le8_6, le8_7, le8_8, Classical.not_not, aT40, aT41, aT42, aT44, aT54, aT58, aT59, rT54, rT58, rT59, reduceIte, Nat.reduceEqDiff, qn_42, qn_44, true_implies, not_true_eq_false, not_false_eq_true, false_implies, lt_T, le_T, T_1, T_10, eq_T]
  refine ⟨fun c => ?_, fun c1 => ⟨fun c => ?_, fun c2 => ⟨fun c => ?_, fun c3 => ?_⟩⟩⟩
  · rw [if_neg (by omega)] at hk; exact hk
  · rw [if_neg (by omega)] at hk; exact hk
  · rw [if_neg (fun q => q.2.2 ((eq_T x 4).mpr c))] at hk; exact hk
  · rw [if_pos ⟨by omega, by omega, fun q => c3 ((eq_T x 4).mp q)⟩] at hk; exact hk
theorem c106 {d c : Nat} {M : Mm} {k : mQ} {b : Nat} {s : Ms} {x : Int32} (h : CM M b s) (hi : IvS c s) (hk : k (some (.inl (if x = 1 then nI s.ws.length else if x = 2 then nI (cnt (rdM s.ws) s.ws.length) else if x = 3 then nI (cnt (emE s.pt s.op) 8) else if x = 4 then oI s.op else if x = 6 then nI s.la.1 else if x = 8 then nI s.tb.length else if x = 9 then nI (chN s) else if x = 10 then nI s.st else -1))) M) : XC (d + 4) 106 [.inr (some b), .inl x] M k := by
  obtain ⟨D, pm, ws, im, G, a, h, r⟩ := h
  have hq : QuC M (b + 7) pm s.md ws := h.2.2.1.1
  have hlen := r.2.2.2.1.1
  have hL : LaC M (b + 251) (b + 252) s.pt s.op := h.2.2.2.2.1
  have hI : IxC M (b + 255) im s.ch s.tb := h.2.2.2.2.2.1
  have hF := h.2.2.2.2.2.2.2.2
  have hla : M.it a 0 = nI (G a).1 := hF.2.1.1.2.1
  have hE := hI.2.1
  refine xc ?_
  show X (d + 3) 106 0 [some (.inr (some b)), some (.inl x)] [] M k
  refine vc_X 40 _ _ _ _ _ _ _ ?_
  simp only [↓v106_0, ↓v106_1, ↓v106_56, ↓v106_57, ↓v106_60, ↓v106_63, ↓v106_64, ↓v106_65, ↓v106_68, ↓v106_71, ↓v106_72, ↓v106_73, ↓v106_76, ↓v106_79, ↓v106_80, ↓v106_81, ↓v106_84, ↓v106_87, ↓v106_88, ↓v106_89, ↓v106_92, ↓v106_95, ↓v106_96, ↓v106_97, ↓v106_100, ↓v106_103, ↓v106_104, ↓v106_105, ↓v106_108, ↓v106_111, ↓v106_114, ↓v106_115, ↓v106_116, ↓v106_119, ↓v106_120, ↓v106_121, ↓qI_c, ↓qL_c, ↓qR_c, ↓pA_o, ↓qC_i, ↓qC_r, ↓oA_s, ↓gI_0, ↓gI_1, ↓gI_2, ↓gI_3, ↓gI_4, ↓gI_5, ↓gI_6, ↓gI_7, ↓gI_8, ↓gI_9, ↓gI_10, ↓gR_0, ↓gR_1, ↓gR_2, ↓gR_3, ↓gR_4, ↓gR_5, ↓gR_6, ↓gR_7, ↓gR_8, ↓gR_9, ↓gR_10, ↓sL_0, ↓sL_1, ↓sL_2, ↓sL_3, ↓sL_4, ↓sL_5, ↓sL_6, ↓sL_7, ↓sL_8, ↓sL_9, ↓sL_10, ↓rrf_si, ↓rrf_sg, ↓shO_si, ↓shO_sg, ↓shO_sr, ↓shA_si, ↓shA_sg, ↓shA_sr, ↓pAs_0, ↓pAs_i, ↓pAs_r, stk_n, stk_i, stk_l, stk_r, List.nil_append, List.cons_append, true_and, and_true, true_or, or_true, Nat.zero_add, dp_s, Nat.reduceAdd, le8_0, le8_1, le8_2, le8_3, le8_4, le8_5, le8_6, le8_7, le8_8, Classical.not_not, aT40, aT41, aT42, aT44, aT54, aT58, aT59, rT54, rT58, rT59, reduceIte, Nat.reduceEqDiff, qn_42, qn_44, true_implies, not_true_eq_false, not_false_eq_true, false_implies, ↓shO_of h.1.1.1, ↓rrf_of h.1.1.2.2.1, ↓shO_of hq.1.1, hq.2.1, ↓rrf_of h.1.1.2.2.2.2.1, ↓shO_of hL.1.1, hL.2.2.1, ↓rrf_of hF.1, ↓shO_of hF.2.1.1.1.1, hla, ↓rrf_of h.1.1.2.2.2.2.2.2, ↓shO_of hI.1.1, hI.2.2.1, ↓rrf_of hI.1.2.1, ↓shO_of hE.1.1, hE.2.2.2.1, h.f16]
  have E : ∀ n : Int32, x.toInt = n.toInt → x = n := fun n c => (eq_T x n).mpr c
  have N : ∀ n : Int32, ¬ x.toInt = n.toInt → x ≠ n := fun n c q => c ((eq_T x n).mp q)
  refine ⟨fun c => ?_, fun c1 => ⟨fun c => ?_, fun c2 => ⟨fun c => ?_, fun c3 => ⟨fun c => ?_, fun c4 => ⟨fun c => ?_, fun c5 => ⟨fun c => ?_, fun c6 => ⟨fun c => ?_, fun c7 => ⟨fun c => ?_, fun c8 => ⟨fun c => ?_, fun c9 => ⟨fun c => ?_, fun c10 => ?_⟩⟩⟩⟩⟩⟩⟩⟩⟩⟩
  · rw [if_pos (E 1 c), ← hlen] at hk; exact hk
  · rw [if_neg (N 1 c1), if_pos (E 2 c)] at hk
    refine k107 hq ⟨_, rfl, ?_⟩
    refine vc_X 20 _ _ _ _ _ _ _ ?_
    simp only [↓v106_0, ↓v106_1, ↓v106_56, ↓v106_57, ↓v106_60, ↓v106_63, ↓v106_64, ↓v106_65, ↓v106_68, ↓v106_71, ↓v106_72, ↓v106_73, ↓v106_76, ↓v106_79, ↓v106_80, ↓v106_81, ↓v106_84, ↓v106_87, ↓v106_88, ↓v106_89, ↓v106_92, ↓v106_95, ↓v106_96, ↓v106_97, ↓v106_100, ↓v106_103, ↓v106_104, ↓v106_105, ↓v106_108, ↓v106_111, ↓v106_114, ↓v106_115, ↓v106_116, ↓v106_119, ↓v106_120, ↓v106_121, ↓qI_c, ↓qL_c, ↓qR_c, ↓pA_o, ↓qC_i, ↓qC_r, ↓oA_s, ↓gI_0, ↓gI_1, ↓gI_2, ↓gI_3, ↓gI_4, ↓gI_5, ↓gI_6, ↓gI_7, ↓gI_8, ↓gI_9, ↓gI_10, ↓gR_0, ↓gR_1, ↓gR_2, ↓gR_3, ↓gR_4, ↓gR_5, ↓gR_6, ↓gR_7, ↓gR_8, ↓gR_9, ↓gR_10, ↓sL_0, ↓sL_1, ↓sL_2, ↓sL_3, ↓sL_4, ↓sL_5, ↓sL_6, ↓sL_7, ↓sL_8, ↓sL_9, ↓sL_10, ↓rrf_si, ↓rrf_sg, ↓shO_si, ↓shO_sg, ↓shO_sr, ↓shA_si, ↓shA_sg, ↓shA_sr, ↓pAs_0, ↓pAs_i, ↓pAs_r, stk_n, stk_i, stk_l, stk_r, List.nil_append, List.cons_append, true_and, and_true, true_or, or_true, Nat.zero_add, dp_s, Nat.reduceAdd, le8_0, le8_1, le8_2, le8_3, le8_4, le8_5, le8_6, le8_7, le8_8, Classical.not_not, aT40, aT41, aT42, aT44, aT54, aT58, aT59, rT54, rT58, rT59, reduceIte, Nat.reduceEqDiff, qn_42, qn_44, true_implies, not_true_eq_false, not_false_eq_true, false_implies]
    have e : rdyP ws = rdM s.ws := funext (fun i => r.2.2.2.1.rdy h.pm hq.2.2.1 i)
    rw [e, hlen]
    exact hk
  · rw [if_neg (N 1 c1), if_neg (N 2 c2), if_pos (E 3 c)] at hk
    refine k48 hL ⟨_, rfl, ?_⟩
    refine vc_X 20 _ _ _ _ _ _ _ ?_
    simp only [↓v106_0, ↓v106_1, ↓v106_56, ↓v106_57, ↓v106_60, ↓v106_63, ↓v106_64, ↓v106_65, ↓v106_68, ↓v106_71, ↓v106_72, ↓v106_73, ↓v106_76, ↓v106_79, ↓v106_80, ↓v106_81, ↓v106_84, ↓v106_87, ↓v106_88, ↓v106_89, ↓v106_92, ↓v106_95, ↓v106_96, ↓v106_97, ↓v106_100, ↓v106_103, ↓v106_104, ↓v106_105, ↓v106_108, ↓v106_111, ↓v106_114, ↓v106_115, ↓v106_116, ↓v106_119, ↓v106_120, ↓v106_121, ↓qI_c, ↓qL_c, ↓qR_c, ↓pA_o, ↓qC_i, ↓qC_r, ↓oA_s, ↓gI_0, ↓gI_1, ↓gI_2, ↓gI_3, ↓gI_4, ↓gI_5, ↓gI_6, ↓gI_7, ↓gI_8, ↓gI_9, ↓gI_10, ↓gR_0, ↓gR_1, ↓gR_2, ↓gR_3, ↓gR_4, ↓gR_5, ↓gR_6, ↓gR_7, ↓gR_8, ↓gR_9, ↓gR_10, ↓sL_0, ↓sL_1, ↓sL_2, ↓sL_3, ↓sL_4, ↓sL_5, ↓sL_6, ↓sL_7, ↓sL_8, ↓sL_9, ↓sL_10, ↓rrf_si, ↓rrf_sg, ↓shO_si, ↓shO_sg, ↓shO_sr, ↓shA_si, ↓shA_sg, ↓shA_sr, ↓pAs_0, ↓pAs_i, ↓pAs_r, stk_n, stk_i, stk_l, stk_r, List.nil_append, List.cons_append, true_and, and_true, true_or, or_true, Nat.zero_add, dp_s, Nat.reduceAdd, le8_0, le8_1, le8_2, le8_3, le8_4, le8_5, le8_6, le8_7, le8_8, Classical.not_not, aT40, aT41, aT42, aT44, aT54, aT58, aT59, rT54, rT58, rT59, reduceIte, Nat.reduceEqDiff, qn_42, qn_44, true_implies, not_true_eq_false, not_false_eq_true, false_implies]
    exact hk
  · rw [if_neg (N 1 c1), if_neg (N 2 c2), if_neg (N 3 c3), if_pos (E 4 c)] at hk; exact hk
  · rw [E 5 c] at hk; exact hk
  · rw [if_neg (N 1 c1), if_neg (N 2 c2), if_neg (N 3 c3), if_neg (N 4 c4), if_pos (E 6 c), ← r.2.2.2.2] at hk; exact hk
  · rw [E 7 c] at hk; exact hk
  · rw [if_neg (N 1 c1), if_neg (N 2 c2), if_neg (N 3 c3), if_neg (N 4 c4), if_neg (N 6 c6), if_pos (E 8 c)] at hk; exact hk
  · rw [if_neg (N 1 c1), if_neg (N 2 c2), if_neg (N 3 c3), if_neg (N 4 c4), if_neg (N 6 c6), if_neg (N 8 c8), if_pos (E 9 c)] at hk; exact hk
  · rw [if_neg (N 1 c1), if_neg (N 2 c2), if_neg (N 3 c3), if_neg (N 4 c4), if_neg (N 6 c6), if_neg (N 8 c8), if_neg (N 9 c9), if_pos (E 10 c)] at hk; exact hk
  · rw [if_neg (N 1 c1), if_neg (N 2 c2), if_neg (N 3 c3), if_neg (N 4 c4), if_neg (N 6 c6), if_neg (N 8 c8), if_neg (N 9 c9), if_neg (N 10 c10)] at hk; exact hk
theorem c104 {d c : Nat} {M : Mm} {k : mQ} {b : Nat} {s : Ms} {x : Int32} (h : CM M b s) (hi : IvS c s) (hk : k (some (.inl (mAbo x s).1)) M) : XC (d + 5) 104 [.inr (some b), .inl x] M k := by
  have h0 := h
  obtain ⟨D, pm, ws, im, G, a, h, r⟩ := h
  have hDs := h.2.1.1.1.1
  have hC := h.2.2.2.1.1
  refine xc ?_
  show X (d + 4) 104 0 [some (.inr (some b)), some (.inl x)] [] M k
  refine vc_X 40 _ _ _ _ _ _ _ ?_
  simp only [↓v104_0, ↓v104_1, ↓v104_44, ↓v104_45, ↓v104_48, ↓v104_49, ↓v104_50, ↓v104_53, ↓v104_56, ↓v104_57, ↓v104_58, ↓v104_61, ↓v104_64, ↓v104_67, ↓v104_68, ↓v104_69, ↓v104_72, ↓v104_75, ↓v104_76, ↓v104_79, ↓v104_80, ↓v104_81, ↓v104_82, ↓v104_85, ↓v104_88, ↓v104_89, ↓v104_92, ↓v104_95, ↓v104_96, ↓v104_97, ↓v104_100, ↓qI_c, ↓qL_c, ↓qR_c, ↓pA_o, ↓qC_i, ↓qC_r, ↓oA_s, ↓gI_0, ↓gI_1, ↓gI_2, ↓gI_3, ↓gI_4, ↓gI_5, ↓gI_6, ↓gI_7, ↓gI_8, ↓gI_9, ↓gI_10, ↓gR_0, ↓gR_1, ↓gR_2, ↓gR_3, ↓gR_4, ↓gR_5, ↓gR_6, ↓gR_7, ↓gR_8, ↓gR_9, ↓gR_10, ↓sL_0, ↓sL_1, ↓sL_2, ↓sL_3, ↓sL_4, ↓sL_5, ↓sL_6, ↓sL_7, ↓sL_8, ↓sL_9, ↓sL_10, ↓rrf_si, ↓rrf_sg, ↓shO_si, ↓shO_sg, ↓shO_sr, ↓shA_si, ↓shA_sg, ↓shA_sr, ↓pAs_0, ↓pAs_i, ↓pAs_r, stk_n, stk_i, stk_l, stk_r, List.nil_append, List.cons_append, true_and, and_true, true_or, or_true, Nat.zero_add, dp_s, Nat.reduceAdd, le8_0, le8_1, le8_2, le8_3, le8_4, le8_5, le8_6, le8_7, le8_8, Classical.not_not, aT40, aT41, aT42, aT44, aT54, aT58, aT59, rT54, rT58, rT59, reduceIte, Nat.reduceEqDiff, qn_42, qn_44, true_implies, not_true_eq_false, not_false_eq_true, false_implies, ↓shO_of h.1.1.1, h.f17, h.f18, ↓rrf_of h.1.1.2.1, ↓shO_of hDs, ↓rrf_of h.1.1.2.2.2.1, ↓shO_of hC.1.1, hC.2.2.2.2]
  have E : ∀ n : Int32, x.toInt = n.toInt → x = n := fun n c => (eq_T x n).mpr c
  have N : ∀ n : Int32, ¬ x.toInt = n.toInt → x ≠ n := fun n c q => c ((eq_T x n).mp q)
  unfold mAbo at hk
  refine ⟨fun c => ?_, fun c0 => ⟨fun c => ?_, fun c5 => ⟨fun c => ?_, fun c7 => ⟨fun c => ?_, fun c11 => ?_⟩⟩⟩⟩
  · rw [if_pos (E 0 c)] at hk; exact hk
  · rw [if_neg (N 0 c0), if_pos (E 5 c)] at hk; exact hk
  · rw [if_neg (N 0 c0), if_neg (N 5 c5), if_pos (E 7 c)] at hk
    refine c16 h r hi (fun a1 rc e1 => ⟨_, rfl, ?_⟩)
    obtain ⟨ra, rb, rd⟩ := rc
    rw [e1] at ra
    refine vc_X 20 _ _ _ _ _ _ _ ?_
    simp only [↓v104_0, ↓v104_1, ↓v104_44, ↓v104_45, ↓v104_48, ↓v104_49, ↓v104_50, ↓v104_53, ↓v104_56, ↓v104_57, ↓v104_58, ↓v104_61, ↓v104_64, ↓v104_67, ↓v104_68, ↓v104_69, ↓v104_72, ↓v104_75, ↓v104_76, ↓v104_79, ↓v104_80, ↓v104_81, ↓v104_82, ↓v104_85, ↓v104_88, ↓v104_89, ↓v104_92, ↓v104_95, ↓v104_96, ↓v104_97, ↓v104_100, ↓qI_c, ↓qL_c, ↓qR_c, ↓pA_o, ↓qC_i, ↓qC_r, ↓oA_s, ↓gI_0, ↓gI_1, ↓gI_2, ↓gI_3, ↓gI_4, ↓gI_5, ↓gI_6, ↓gI_7, ↓gI_8, ↓gI_9, ↓gI_10, ↓gR_0, ↓gR_1, ↓gR_2, ↓gR_3, ↓gR_4, ↓gR_5, ↓gR_6, ↓gR_7, ↓gR_8, ↓gR_9, ↓gR_10, ↓sL_0, ↓sL_1, ↓sL_2, ↓sL_3, ↓sL_4, ↓sL_5, ↓sL_6, ↓sL_7, ↓sL_8, ↓sL_9, ↓sL_10, ↓rrf_si, ↓rrf_sg, ↓shO_si, ↓shO_sg, ↓shO_sr, ↓shA_si, ↓shA_sg, ↓shA_sr, ↓pAs_0, ↓pAs_i, ↓pAs_r, stk_n, stk_i, stk_l, stk_r, List.nil_append, List.cons_append, true_and, and_true, true_or, or_true, Nat.zero_add, dp_s, Nat.reduceAdd, le8_0, le8_1, le8_2, le8_3, le8_4, le8_5, le8_6, le8_7, le8_8, Classical.not_not, aT40, aT41, aT42, aT44, aT54, aT58, aT59, rT54, rT58, rT59, reduceIte, Nat.reduceEqDiff, qn_42, qn_44, true_implies, not_true_eq_false, not_false_eq_true, false_implies, ↓shO_of ra.1.1, ra.2.2.1]
    exact hk
  · rw [if_neg (N 0 c0), if_neg (N 5 c5), if_neg (N 7 c7), if_pos (E 11 c)] at hk
    have hk : k (some (.inl (if s.off then 1 else 0))) M := hk
    show (bI s.off = 0 → _) ∧ (¬ bI s.off = 0 → _)
    rw [bI0]
    refine ⟨fun c => ?_, fun c => ?_⟩
    · rw [c] at hk; exact hk
    · rw [show s.off = true by simpa using c] at hk; exact hk
  · rw [if_neg (N 0 c0), if_neg (N 5 c5), if_neg (N 7 c7), if_neg (N 11 c11)] at hk
    show (bI s.off = 0 → _) ∧ (¬ bI s.off = 0 → _)
    rw [bI0]
    refine ⟨fun c => ?_, fun c => ?_⟩
    · rw [if_neg (by rw [c]; decide)] at hk
      refine c106 h0 hi ⟨_, rfl, ?_⟩
      refine vc_X 20 _ _ _ _ _ _ _ ?_
      simp only [↓v104_0, ↓v104_1, ↓v104_44, ↓v104_45, ↓v104_48, ↓v104_49, ↓v104_50, ↓v104_53, ↓v104_56, ↓v104_57, ↓v104_58, ↓v104_61, ↓v104_64, ↓v104_67, ↓v104_68, ↓v104_69, ↓v104_72, ↓v104_75, ↓v104_76, ↓v104_79, ↓v104_80, ↓v104_81, ↓v104_82, ↓v104_85, ↓v104_88, ↓v104_89, ↓v104_92, ↓v104_95, ↓v104_96, ↓v104_97, ↓v104_100, ↓qI_c, ↓qL_c, ↓qR_c, ↓pA_o, ↓qC_i, ↓qC_r, ↓oA_s, ↓gI_0, ↓gI_1, ↓gI_2, ↓gI_3, ↓gI_4, ↓gI_5, ↓gI_6, ↓gI_7, ↓gI_8, ↓gI_9, ↓gI_10, ↓gR_0, ↓gR_1, ↓gR_2, ↓gR_3, ↓gR_4, ↓gR_5, ↓gR_6, ↓gR_7, ↓gR_8, ↓gR_9, ↓gR_10, ↓sL_0, ↓sL_1, ↓sL_2, ↓sL_3, ↓sL_4, ↓sL_5, ↓sL_6, ↓sL_7, ↓sL_8, ↓sL_9, ↓sL_10, ↓rrf_si, ↓rrf_sg, ↓shO_si, ↓shO_sg, ↓shO_sr, ↓shA_si, ↓shA_sg, ↓shA_sr, ↓pAs_0, ↓pAs_i, ↓pAs_r, stk_n, stk_i, stk_l, stk_r, List.nil_append, List.cons_append, true_and, and_true, true_or, or_true, Nat.zero_add, dp_s, Nat.reduceAdd, le8_0, le8_1, le8_2, le8_3, le8_4, le8_5, le8_6, le8_7, le8_8, Classical.not_not, aT40, aT41, aT42, aT44, aT54, aT58, aT59, rT54, rT58, rT59, reduceIte, Nat.reduceEqDiff, qn_42, qn_44, true_implies, not_true_eq_false, not_false_eq_true, false_implies]
      exact hk
    · rw [if_pos (by simpa using c)] at hk
      refine c105 ⟨_, rfl, ?_⟩
      refine vc_X 20 _ _ _ _ _ _ _ ?_
      simp only [↓v104_0, ↓v104_1, ↓v104_44, ↓v104_45, ↓v104_48, ↓v104_49, ↓v104_50, ↓v104_53, ↓v104_56, ↓v104_57, ↓v104_58, ↓v104_61, ↓v104_64, ↓v104_67, ↓v104_68, ↓v104_69, ↓v104_72, ↓v104_75, ↓v104_76, ↓v104_79, ↓v104_80, ↓v104_81, ↓v104_82, ↓v104_85, ↓v104_88, ↓v104_89, ↓v104_92, ↓v104_95, ↓v104_96, ↓v104_97, ↓v104_100, ↓qI_c, ↓qL_c, ↓qR_c, ↓pA_o, ↓qC_i, ↓qC_r, ↓oA_s, ↓gI_0, ↓gI_1, ↓gI_2, ↓gI_3, ↓gI_4, ↓gI_5, ↓gI_6, ↓gI_7, ↓gI_8, ↓gI_9, ↓gI_10, ↓gR_0, ↓gR_1, ↓gR_2, ↓gR_3, ↓gR_4, ↓gR_5, ↓gR_6, ↓gR_7, ↓gR_8, ↓gR_9, ↓gR_10, ↓sL_0, ↓sL_1, ↓sL_2, ↓sL_3, ↓sL_4, ↓sL_5, ↓sL_6, ↓sL_7, ↓sL_8, ↓sL_9, ↓sL_10, ↓rrf_si, ↓rrf_sg, ↓shO_si, ↓shO_sg, ↓shO_sr, ↓shA_si, ↓shA_sg, ↓shA_sr, ↓pAs_0, ↓pAs_i, ↓pAs_r, stk_n, stk_i, stk_l, stk_r, List.nil_append, List.cons_append, true_and, and_true, true_or, or_true, Nat.zero_add, dp_s, Nat.reduceAdd, le8_0, le8_1, le8_2, le8_3, le8_4, le8_5, le8_6, le8_7, le8_8, Classical.not_not, aT40, aT41, aT42, aT44, aT54, aT58, aT59, rT54, rT58, rT59, reduceIte, Nat.reduceEqDiff, qn_42, qn_44, true_implies, not_true_eq_false, not_false_eq_true, false_implies]
      refine vc_X 20 _ _ _ _ _ _ _ ?_
      simp only [↓v104_0, ↓v104_1, ↓v104_44, ↓v104_45, ↓v104_48, ↓v104_49, ↓v104_50, ↓v104_53, ↓v104_56, ↓v104_57, ↓v104_58, ↓v104_61, ↓v104_64, ↓v104_67, ↓v104_68, ↓v104_69, ↓v104_72, ↓v104_75, ↓v104_76, ↓v104_79, ↓v104_80, ↓v104_81, ↓v104_82, ↓v104_85, ↓v104_88, ↓v104_89, ↓v104_92, ↓v104_95, ↓v104_96, ↓v104_97, ↓v104_100, ↓qI_c, ↓qL_c, ↓qR_c, ↓pA_o, ↓qC_i, ↓qC_r, ↓oA_s, ↓gI_0, ↓gI_1, ↓gI_2, ↓gI_3, ↓gI_4, ↓gI_5, ↓gI_6, ↓gI_7, ↓gI_8, ↓gI_9, ↓gI_10, ↓gR_0, ↓gR_1, ↓gR_2, ↓gR_3, ↓gR_4, ↓gR_5, ↓gR_6, ↓gR_7, ↓gR_8, ↓gR_9, ↓gR_10, ↓sL_0, ↓sL_1, ↓sL_2, ↓sL_3, ↓sL_4, ↓sL_5, ↓sL_6, ↓sL_7, ↓sL_8, ↓sL_9, ↓sL_10, ↓rrf_si, ↓rrf_sg, ↓shO_si, ↓shO_sg, ↓shO_sr, ↓shA_si, ↓shA_sg, ↓shA_sr, ↓pAs_0, ↓pAs_i, ↓pAs_r, stk_n, stk_i, stk_l, stk_r, List.nil_append, List.cons_append, true_and, and_true, true_or, or_true, Nat.zero_add, dp_s, Nat.reduceAdd, le8_0, le8_1, le8_2, le8_3, le8_4, le8_5, le8_6, le8_7, le8_8, Classical.not_not, aT40, aT41, aT42, aT44, aT54, aT58, aT59, rT54, rT58, rT59, reduceIte, Nat.reduceEqDiff, qn_42, qn_44, true_implies, not_true_eq_false, not_false_eq_true, false_implies]
      exact hk
