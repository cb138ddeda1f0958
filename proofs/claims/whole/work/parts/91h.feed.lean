/-! the reference: feed, delete, get -/
theorem d128 {d c : Nat} {M : Mm} {k : mQ} {r : Nat} {s : Ms} {x : Int32} (h : RP M r s) (hi : IvS c s) (hc : c < 512) (hk : ∀ M', RP M' r (mDel x s).2 → Rr r M M' → k (some (.inl (mDel x s).1)) M') : XC (d + 2) 128 [.inr (some r), .inl x] M k := by
  obtain ⟨h1, o1⟩ := h.th
  have rr1 : Rr r M (M.si r 0 0) := o1.rr (fun _ q => q.elim)
  generalize hM1 : M.si r 0 0 = M1 at h1 o1 rr1
  have hs := h.1
  have hs1 := h1.1
  have f5 : M1.it r 5 = bI s.off := h1.2.1.1.2.1
  have f13 : M1.it r 13 = nI s.mu := h1.2.1.1.2.2.2.2.2.2
  have hm : s.mu ≤ c := hi.2.2.1.2.2.2.1
  have no : ∀ (j : Nat), keyOf x = none ∨ (keyOf x = some j ∧ (s.off = true ∨ plO s.ch s.tb (some j) = none)) → mDel x s = (-1, s) := by
    intro j hj
    unfold mDel
    rcases hj with hj | ⟨hj, hc⟩
    · rw [hj]
    · rw [hj]
      exact if_pos hc
  refine xc ?_
  show X (d + 1) 128 0 [some (.inr (some r)), some (.inl x)] [] M k
  cases ho : s.off with
  | true =>
    rw [ho, bI_t] at f5
    refine vc_X 20 _ _ _ _ _ _ _ ?_
    simp only [↓v128_0, ↓v128_1, ↓v128_2, ↓v128_5, ↓v128_6, ↓v128_9, ↓v128_12, ↓v128_13, ↓v128_16, ↓v128_19, ↓v128_20, ↓v128_21, ↓v128_24, ↓v128_25, ↓v128_28, ↓v128_29, ↓v128_30, ↓v128_31, ↓v128_34, ↓v128_35, ↓v128_38, ↓v128_39, ↓v128_40, ↓v128_41, ↓v128_44, ↓v128_45, ↓v128_46, ↓v128_49, ↓v128_50, ↓v128_53, ↓qI_c, ↓qL_c, ↓qR_c, ↓pA_o, ↓qC_i, ↓qC_r, ↓oA_s, ↓gI_0, ↓gI_1, ↓gI_2, ↓gI_3, ↓gI_4, ↓gI_5, ↓gI_6, ↓gI_7, ↓gI_8, ↓gI_9, ↓gI_10, ↓gR_0, ↓gR_1, ↓gR_2, ↓gR_3, ↓gR_4, ↓gR_5, ↓gR_6, ↓gR_7, ↓gR_8, ↓gR_9, ↓gR_10, ↓sL_0, ↓sL_1, ↓sL_2, ↓sL_3, ↓sL_4, ↓sL_5, ↓sL_6, ↓sL_7, ↓sL_8, ↓sL_9, ↓sL_10, ↓rrf_si, ↓rrf_sg, ↓shO_si, ↓shO_sg, ↓shO_sr, ↓shA_si, ↓shA_sg, ↓shA_sr, ↓pAs_0, ↓pAs_i, ↓pAs_r, stk_n, stk_i, stk_l, stk_r, List.nil_append, List.cons_append, true_and, and_true, true_or, or_true, Nat.zero_add, dp_s, Nat.reduceAdd, le8_0, le8_1, le8_2, le8_3, le8_4, le8_5, le8_6, le8_7, le8_8, Classical.not_not, aT40, aT41, aT42, aT44, aT54, aT58, aT59, rT54, rT58, rT59, reduceIte, Nat.reduceEqDiff, qn_42, qn_44, true_implies, not_true_eq_false, not_false_eq_true, false_implies, hM1, ↓shO_of hs.1.1, f5, i10]
    have e : mDel x s = (-1, s) := by
      cases hx : keyOf x with
      | none => exact no 0 (Or.inl hx)
      | some j => exact no j (Or.inr ⟨hx, Or.inl ho⟩)
    rw [e] at hk
    exact hk M1 h1 rr1
  | false =>
    rw [ho, bI_f] at f5
    refine vc_X 20 _ _ _ _ _ _ _ ?_
    simp only [↓v128_0, ↓v128_1, ↓v128_2, ↓v128_5, ↓v128_6, ↓v128_9, ↓v128_12, ↓v128_13, ↓v128_16, ↓v128_19, ↓v128_20, ↓v128_21, ↓v128_24, ↓v128_25, ↓v128_28, ↓v128_29, ↓v128_30, ↓v128_31, ↓v128_34, ↓v128_35, ↓v128_38, ↓v128_39, ↓v128_40, ↓v128_41, ↓v128_44, ↓v128_45, ↓v128_46, ↓v128_49, ↓v128_50, ↓v128_53, ↓qI_c, ↓qL_c, ↓qR_c, ↓pA_o, ↓qC_i, ↓qC_r, ↓oA_s, ↓gI_0, ↓gI_1, ↓gI_2, ↓gI_3, ↓gI_4, ↓gI_5, ↓gI_6, ↓gI_7, ↓gI_8, ↓gI_9, ↓gI_10, ↓gR_0, ↓gR_1, ↓gR_2, ↓gR_3, ↓gR_4, ↓gR_5, ↓gR_6, ↓gR_7, ↓gR_8, ↓gR_9, ↓gR_10, ↓sL_0, ↓sL_1, ↓sL_2, ↓sL_3, ↓sL_4, ↓sL_5, ↓sL_6, ↓sL_7, ↓sL_8, ↓sL_9, ↓sL_10, ↓rrf_si, ↓rrf_sg, ↓shO_si, ↓shO_sg, ↓shO_sr, ↓shA_si, ↓shA_sg, ↓shA_sr, ↓pAs_0, ↓pAs_i, ↓pAs_r, stk_n, stk_i, stk_l, stk_r, List.nil_append, List.cons_append, true_and, and_true, true_or, or_true, Nat.zero_add, dp_s, Nat.reduceAdd, le8_0, le8_1, le8_2, le8_3, le8_4, le8_5, le8_6, le8_7, le8_8, Classical.not_not, aT40, aT41, aT42, aT44, aT54, aT58, aT59, rT54, rT58, rT59, reduceIte, Nat.reduceEqDiff, qn_42, qn_44, true_implies, not_true_eq_false, not_false_eq_true, false_implies, hM1, ↓shO_of hs.1.1, f5, i00]
    refine e119 (fun hin => ⟨1, rfl, ?_⟩) (fun hin => ⟨0, rfl, ?_⟩)
    rotate_left
    · rw [no 0 (Or.inl (keyOf_no hin))] at hk
      refine vc_X 20 _ _ _ _ _ _ _ ?_
      simp only [↓v128_0, ↓v128_1, ↓v128_2, ↓v128_5, ↓v128_6, ↓v128_9, ↓v128_12, ↓v128_13, ↓v128_16, ↓v128_19, ↓v128_20, ↓v128_21, ↓v128_24, ↓v128_25, ↓v128_28, ↓v128_29, ↓v128_30, ↓v128_31, ↓v128_34, ↓v128_35, ↓v128_38, ↓v128_39, ↓v128_40, ↓v128_41, ↓v128_44, ↓v128_45, ↓v128_46, ↓v128_49, ↓v128_50, ↓v128_53, ↓qI_c, ↓qL_c, ↓qR_c, ↓pA_o, ↓qC_i, ↓qC_r, ↓oA_s, ↓gI_0, ↓gI_1, ↓gI_2, ↓gI_3, ↓gI_4, ↓gI_5, ↓gI_6, ↓gI_7, ↓gI_8, ↓gI_9, ↓gI_10, ↓gR_0, ↓gR_1, ↓gR_2, ↓gR_3, ↓gR_4, ↓gR_5, ↓gR_6, ↓gR_7, ↓gR_8, ↓gR_9, ↓gR_10, ↓sL_0, ↓sL_1, ↓sL_2, ↓sL_3, ↓sL_4, ↓sL_5, ↓sL_6, ↓sL_7, ↓sL_8, ↓sL_9, ↓sL_10, ↓rrf_si, ↓rrf_sg, ↓shO_si, ↓shO_sg, ↓shO_sr, ↓shA_si, ↓shA_sg, ↓shA_sr, ↓pAs_0, ↓pAs_i, ↓pAs_r, stk_n, stk_i, stk_l, stk_r, List.nil_append, List.cons_append, true_and, and_true, true_or, or_true, Nat.zero_add, dp_s, Nat.reduceAdd, le8_0, le8_1, le8_2, le8_3, le8_4, le8_5, le8_6, le8_7, le8_8, Classical.not_not, aT40, aT41, aT42, aT44, aT54, aT58, aT59, rT54, rT58, rT59, reduceIte, Nat.reduceEqDiff, qn_42, qn_44, true_implies, not_true_eq_false, not_false_eq_true, false_implies, i00]
      exact hk M1 h1 rr1
    obtain ⟨j, hj, rfl⟩ := inB_of hin (by omega)
    have hx := keyOf_n hj
    refine vc_X 20 _ _ _ _ _ _ _ ?_
    simp only [↓v128_0, ↓v128_1, ↓v128_2, ↓v128_5, ↓v128_6, ↓v128_9, ↓v128_12, ↓v128_13, ↓v128_16, ↓v128_19, ↓v128_20, ↓v128_21, ↓v128_24, ↓v128_25, ↓v128_28, ↓v128_29, ↓v128_30, ↓v128_31, ↓v128_34, ↓v128_35, ↓v128_38, ↓v128_39, ↓v128_40, ↓v128_41, ↓v128_44, ↓v128_45, ↓v128_46, ↓v128_49, ↓v128_50, ↓v128_53, ↓qI_c, ↓qL_c, ↓qR_c, ↓pA_o, ↓qC_i, ↓qC_r, ↓oA_s, ↓gI_0, ↓gI_1, ↓gI_2, ↓gI_3, ↓gI_4, ↓gI_5, ↓gI_6, ↓gI_7, ↓gI_8, ↓gI_9, ↓gI_10, ↓gR_0, ↓gR_1, ↓gR_2, ↓gR_3, ↓gR_4, ↓gR_5, ↓gR_6, ↓gR_7, ↓gR_8, ↓gR_9, ↓gR_10, ↓sL_0, ↓sL_1, ↓sL_2, ↓sL_3, ↓sL_4, ↓sL_5, ↓sL_6, ↓sL_7, ↓sL_8, ↓sL_9, ↓sL_10, ↓rrf_si, ↓rrf_sg, ↓shO_si, ↓shO_sg, ↓shO_sr, ↓shA_si, ↓shA_sg, ↓shA_sr, ↓pAs_0, ↓pAs_i, ↓pAs_r, stk_n, stk_i, stk_l, stk_r, List.nil_append, List.cons_append, true_and, and_true, true_or, or_true, Nat.zero_add, dp_s, Nat.reduceAdd, le8_0, le8_1, le8_2, le8_3, le8_4, le8_5, le8_6, le8_7, le8_8, Classical.not_not, aT40, aT41, aT42, aT44, aT54, aT58, aT59, rT54, rT58, rT59, reduceIte, Nat.reduceEqDiff, qn_42, qn_44, true_implies, not_true_eq_false, not_false_eq_true, false_implies, i10, ↓shO_of hs1.1.1]
    refine f129 h1 hj ⟨_, rfl, ?_⟩
    cases hp : plO s.ch s.tb (some j) with
    | none =>
      rw [no j (Or.inr ⟨hx, Or.inr hp⟩)] at hk
      refine vc_X 20 _ _ _ _ _ _ _ ?_
      simp only [↓v128_0, ↓v128_1, ↓v128_2, ↓v128_5, ↓v128_6, ↓v128_9, ↓v128_12, ↓v128_13, ↓v128_16, ↓v128_19, ↓v128_20, ↓v128_21, ↓v128_24, ↓v128_25, ↓v128_28, ↓v128_29, ↓v128_30, ↓v128_31, ↓v128_34, ↓v128_35, ↓v128_38, ↓v128_39, ↓v128_40, ↓v128_41, ↓v128_44, ↓v128_45, ↓v128_46, ↓v128_49, ↓v128_50, ↓v128_53, ↓qI_c, ↓qL_c, ↓qR_c, ↓pA_o, ↓qC_i, ↓qC_r, ↓oA_s, ↓gI_0, ↓gI_1, ↓gI_2, ↓gI_3, ↓gI_4, ↓gI_5, ↓gI_6, ↓gI_7, ↓gI_8, ↓gI_9, ↓gI_10, ↓gR_0, ↓gR_1, ↓gR_2, ↓gR_3, ↓gR_4, ↓gR_5, ↓gR_6, ↓gR_7, ↓gR_8, ↓gR_9, ↓gR_10, ↓sL_0, ↓sL_1, ↓sL_2, ↓sL_3, ↓sL_4, ↓sL_5, ↓sL_6, ↓sL_7, ↓sL_8, ↓sL_9, ↓sL_10, ↓rrf_si, ↓rrf_sg, ↓shO_si, ↓shO_sg, ↓shO_sr, ↓shA_si, ↓shA_sg, ↓shA_sr, ↓pAs_0, ↓pAs_i, ↓pAs_r, stk_n, stk_i, stk_l, stk_r, List.nil_append, List.cons_append, true_and, and_true, true_or, or_true, Nat.zero_add, dp_s, Nat.reduceAdd, le8_0, le8_1, le8_2, le8_3, le8_4, le8_5, le8_6, le8_7, le8_8, Classical.not_not, aT40, aT41, aT42, aT44, aT54, aT58, aT59, rT54, rT58, rT59, reduceIte, Nat.reduceEqDiff, qn_42, qn_44, true_implies, not_true_eq_false, not_false_eq_true, false_implies, oI_none, m11]
      exact hk M1 h1 rr1
    | some p =>
      have hp2 := h1.pl hj hp
      have e1 : oI (some p) = nI p := rfl
      have e : mDel (nI j) s = (nI (s.mu + 1), sMu (sCh j 255 s)) := by
        unfold mDel
        rw [hx]
        exact if_neg (by rw [ho, hp]; simp)
      rw [e] at hk
      refine vc_X 30 _ _ _ _ _ _ _ ?_
      simp only [↓v128_0, ↓v128_1, ↓v128_2, ↓v128_5, ↓v128_6, ↓v128_9, ↓v128_12, ↓v128_13, ↓v128_16, ↓v128_19, ↓v128_20, ↓v128_21, ↓v128_24, ↓v128_25, ↓v128_28, ↓v128_29, ↓v128_30, ↓v128_31, ↓v128_34, ↓v128_35, ↓v128_38, ↓v128_39, ↓v128_40, ↓v128_41, ↓v128_44, ↓v128_45, ↓v128_46, ↓v128_49, ↓v128_50, ↓v128_53, ↓qI_c, ↓qL_c, ↓qR_c, ↓pA_o, ↓qC_i, ↓qC_r, ↓oA_s, ↓gI_0, ↓gI_1, ↓gI_2, ↓gI_3, ↓gI_4, ↓gI_5, ↓gI_6, ↓gI_7, ↓gI_8, ↓gI_9, ↓gI_10, ↓gR_0, ↓gR_1, ↓gR_2, ↓gR_3, ↓gR_4, ↓gR_5, ↓gR_6, ↓gR_7, ↓gR_8, ↓gR_9, ↓gR_10, ↓sL_0, ↓sL_1, ↓sL_2, ↓sL_3, ↓sL_4, ↓sL_5, ↓sL_6, ↓sL_7, ↓sL_8, ↓sL_9, ↓sL_10, ↓rrf_si, ↓rrf_sg, ↓shO_si, ↓shO_sg, ↓shO_sr, ↓shA_si, ↓shA_sg, ↓shA_sr, ↓pAs_0, ↓pAs_i, ↓pAs_r, stk_n, stk_i, stk_l, stk_r, List.nil_append, List.cons_append, true_and, and_true, true_or, or_true, Nat.zero_add, dp_s, Nat.reduceAdd, le8_0, le8_1, le8_2, le8_3, le8_4, le8_5, le8_6, le8_7, le8_8, Classical.not_not, aT40, aT41, aT42, aT44, aT54, aT58, aT59, rT54, rT58, rT59, reduceIte, Nat.reduceEqDiff, qn_42, qn_44, true_implies, not_true_eq_false, not_false_eq_true, false_implies, e1, nI_nm (show p < 2147483648 by omega) (show ((-1 : Int32)).toInt < 0 by decide), ↓shO_of hs1.1.1, ↓rrf_of hs1.2.1.2.1, ↓shA_of hs1.2.2.2.1.2.2.2.2.2.2.2, nC (show j < 2147483648 by omega), f13]
      refine ⟨inB_n (by omega) (by omega), ?_⟩
      generalize hM2 : M1.si (r + 8) j 255 = M2
      have o2 : Rf r (· = r + 8) [0] M1 M2 := by rw [← hM2]; exact Rf.rf_.row rfl (by omega)
      have g13 : M2.it r 13 = nI s.mu := by rw [← hM2, si_it, if_neg (by omega)]; exact f13
      rw [g13, nI_1, si_it, if_pos ⟨rfl, rfl⟩]
      have h2 : RP M2 r (sCh j 255 s) := h1.uCh o2 (by decide) ⟨by omega, by omega, by omega, by omega, by omega, by omega, by omega, by omega, by omega, by omega, fun y y1 y2 => by omega⟩ (fun q hq => ?_) ⟨?_, h1.2.2.2.2.2.2⟩
      · have o3 : Rf r (fun _ => False) [13] M2 (M2.si r 13 (nI (s.mu + 1))) := Rf.rf_.fld (by simp)
        have h3 : RP (M2.si r 13 (nI (s.mu + 1))) r (sMu (sCh j 255 s)) := h2.uMu o3 (by decide) ⟨id, id, id, id, id, id, id, id, id, id, id, fun _ _ _ => id⟩ (by rw [si_it, if_pos ⟨rfl, rfl⟩]; rfl)
        exact hk _ h3 ((rr1.trans (o2.rr (fun y hy => by rw [hy]; omega)) (fun _ q => q)).trans (o3.rr (fun _ q => q.elim)) (fun _ q => q))
      · rw [← hM2, si_it]
        show _ = oI (if q = j then some 255 else s.ch q)
        by_cases cq : q = j
        · rw [if_pos ⟨rfl, cq⟩, if_pos cq]; rfl
        · rw [if_neg (fun z => cq z.2), if_neg cq]
          exact h1.2.2.2.1.2.1 q hq
      · intro q v hq hv
        have hv : (if q = j then some 255 else s.ch q) = some v := hv
        by_cases cq : q = j
        · rw [if_pos cq] at hv; cases hv; exact Or.inl rfl
        · rw [if_neg cq] at hv
          exact h1.2.2.2.2.2.1 q v hq hv
theorem RP.ca {M : Mm} {r : Nat} {s : Ms} (h : RP M r s) : RCa M r s.C := ⟨h.2.1.2.2.2.1, h.2.2.2.2.1.2.1.2.1, fun j v hj => ⟨h.2.2.2.2.1.2.1.1 j v hj, h.2.2.2.2.1.2.1.2.2 v (List.mem_of_getElem? hj)⟩, h.2.1.2.2.2.2.1⟩
theorem RCa.rf {r : Nat} {P : Nat → Prop} {Fs : List Nat} {M M' : Mm} {C : List Nat × Nat} (h : RCa M r C) (o : Rf r P Fs M M') (hp : ¬ P (r + 17)) (h27 : 27 ∉ Fs) (h28 : 28 ∉ Fs) : RCa M' r C := ⟨by rw [o.2 27 h27]; exact h.1, h.2.1, fun j v hj => by rw [o.at_ (by omega) hp]; exact h.2.2.1 j v hj, by rw [o.2 28 h28]; exact h.2.2.2⟩
theorem RCa.c2 {r : Nat} {M : Mm} {C : List Nat × Nat} (h : RCa M r C) : RI M (r + 17) C.1 ∧ C.1.length ≤ 6 ∧ ∀ v ∈ C.1, v < 1000 := ⟨fun j v hj => (h.2.2.1 j v hj).1, h.2.1, fun v hv => by
  obtain ⟨j, hj⟩ := List.mem_iff_getElem?.mp hv
  exact (h.2.2.1 j v hj).2⟩
theorem b8 {n : Nat} (h : n < 256) : (nI n).toInt8.toInt32.toInt8.toInt32 &&& 255 = nI n := by rw [nar_and, nar_and, a255 h]
theorem d130 {d c : Nat} {M : Mm} {k : mQ} {r : Nat} {s : Ms} {x : Int32} (h : RP M r s) (hi : IvS c s) (hc : c < 512) (hk : ∀ M', RP M' r (mGet x s).2 → Rr r M M' → k (some (.inl (mGet x s).1)) M') : XC (d + 5) 130 [.inr (some r), .inl x] M k := by
  obtain ⟨h1, o1⟩ := h.th
  have rr1 : Rr r M (M.si r 0 0) := o1.rr (fun _ q => q.elim)
  generalize hM1 : M.si r 0 0 = M1 at h1 o1 rr1
  have hs := h.1
  have hs1 := h1.1
  have f5 : M1.it r 5 = bI s.off := h1.2.1.1.2.1
  unfold mGet at hk
  refine xc ?_
  show X (d + 4) 130 0 [some (.inr (some r)), some (.inl x), none, none] [] M k
  cases ho : s.off with
  | true =>
    rw [ho, bI_t] at f5
    rw [if_pos ho] at hk
    refine vc_X 20 _ _ _ _ _ _ _ ?_
    simp only [↓v130_0, ↓v130_1, ↓v130_2, ↓v130_5, ↓v130_6, ↓v130_9, ↓v130_12, ↓v130_13, ↓v130_16, ↓v130_19, ↓v130_20, ↓v130_21, ↓v130_24, ↓v130_25, ↓v130_28, ↓v130_29, ↓v130_30, ↓v130_31, ↓v130_32, ↓v130_35, ↓v130_36, ↓v130_37, ↓v130_38, ↓v130_39, ↓v130_42, ↓v130_45, ↓v130_46, ↓v130_47, ↓v130_48, ↓v130_49, ↓v130_52, ↓v130_55, ↓v130_56, ↓v130_59, ↓v130_60, ↓v130_61, ↓v130_62, ↓v130_63, ↓v130_66, ↓v130_67, ↓v130_68, ↓v130_71, ↓v130_74, ↓v130_75, ↓v130_76, ↓v130_79, ↓v130_80, ↓v130_83, ↓qI_c, ↓qL_c, ↓qR_c, ↓pA_o, ↓qC_i, ↓qC_r, ↓oA_s, ↓gI_0, ↓gI_1, ↓gI_2, ↓gI_3, ↓gI_4, ↓gI_5, ↓gI_6, ↓gI_7, ↓gI_8, ↓gI_9, ↓gI_10, ↓gR_0, ↓gR_1, ↓gR_2, ↓gR_3, ↓gR_4, ↓gR_5, ↓gR_6, ↓gR_7, ↓gR_8, ↓gR_9, ↓gR_10, ↓sL_0, ↓sL_1, ↓sL_2, ↓sL_3, ↓sL_4, ↓sL_5, ↓sL_6, ↓sL_7, ↓sL_8, ↓sL_9, ↓sL_10, ↓rrf_si, ↓rrf_sg, ↓shO_si, ↓shO_sg, ↓shO_sr, ↓shA_si, ↓shA_sg, ↓shA_sr, ↓pAs_0, ↓pAs_i, ↓pAs_r, stk_n, stk_i, stk_l, stk_r, List.nil_append, List.cons_append, true_and, and_true, true_or, or_true, Nat.zero_add, dp_s, Nat.reduceAdd, le8_0, le8_1, le8_2, le8_3, le8_4, le8_5, le8_6, le8_7, le8_8, Classical.not_not, aT40, aT41, aT42, aT44, aT54, aT58, aT59, rT54, rT58, rT59, reduceIte, Nat.reduceEqDiff, qn_42, qn_44, true_implies, not_true_eq_false, not_false_eq_true, false_implies, hM1, ↓shO_of hs.1.1, f5, i10]
    exact hk M1 h1 rr1
  | false =>
    rw [ho, bI_f] at f5
    rw [if_neg (by rw [ho]; decide)] at hk
    refine vc_X 20 _ _ _ _ _ _ _ ?_
    simp only [↓v130_0, ↓v130_1, ↓v130_2, ↓v130_5, ↓v130_6, ↓v130_9, ↓v130_12, ↓v130_13, ↓v130_16, ↓v130_19, ↓v130_20, ↓v130_21, ↓v130_24, ↓v130_25, ↓v130_28, ↓v130_29, ↓v130_30, ↓v130_31, ↓v130_32, ↓v130_35, ↓v130_36, ↓v130_37, ↓v130_38, ↓v130_39, ↓v130_42, ↓v130_45, ↓v130_46, ↓v130_47, ↓v130_48, ↓v130_49, ↓v130_52, ↓v130_55, ↓v130_56, ↓v130_59, ↓v130_60, ↓v130_61, ↓v130_62, ↓v130_63, ↓v130_66, ↓v130_67, ↓v130_68, ↓v130_71, ↓v130_74, ↓v130_75, ↓v130_76, ↓v130_79, ↓v130_80, ↓v130_83, ↓qI_c, ↓qL_c, ↓qR_c, ↓pA_o, ↓qC_i, ↓qC_r, ↓oA_s, ↓gI_0, ↓gI_1, ↓gI_2, ↓gI_3, ↓gI_4, ↓gI_5, ↓gI_6, ↓gI_7, ↓gI_8, ↓gI_9, ↓gI_10, ↓gR_0, ↓gR_1, ↓gR_2, ↓gR_3, ↓gR_4, ↓gR_5, ↓gR_6, ↓gR_7, ↓gR_8, ↓gR_9, ↓gR_10, ↓sL_0, ↓sL_1, ↓sL_2, ↓sL_3, ↓sL_4, ↓sL_5, ↓sL_6, ↓sL_7, ↓sL_8, ↓sL_9, ↓sL_10, ↓rrf_si, ↓rrf_sg, ↓shO_si, ↓shO_sg, ↓shO_sr, ↓shA_si, ↓shA_sg, ↓shA_sr, ↓pAs_0, ↓pAs_i, ↓pAs_r, stk_n, stk_i, stk_l, stk_r, List.nil_append, List.cons_append, true_and, and_true, true_or, or_true, Nat.zero_add, dp_s, Nat.reduceAdd, le8_0, le8_1, le8_2, le8_3, le8_4, le8_5, le8_6, le8_7, le8_8, Classical.not_not, aT40, aT41, aT42, aT44, aT54, aT58, aT59, rT54, rT58, rT59, reduceIte, Nat.reduceEqDiff, qn_42, qn_44, true_implies, not_true_eq_false, not_false_eq_true, false_implies, hM1, ↓shO_of hs.1.1, f5, i00]
    refine e119 (fun hin => ⟨1, rfl, ?_⟩) (fun hin => ⟨0, rfl, ?_⟩)
    rotate_left
    · rw [keyOf_no hin, plO_noK] at hk
      refine vc_X 20 _ _ _ _ _ _ _ ?_
      simp only [↓v130_0, ↓v130_1, ↓v130_2, ↓v130_5, ↓v130_6, ↓v130_9, ↓v130_12, ↓v130_13, ↓v130_16, ↓v130_19, ↓v130_20, ↓v130_21, ↓v130_24, ↓v130_25, ↓v130_28, ↓v130_29, ↓v130_30, ↓v130_31, ↓v130_32, ↓v130_35, ↓v130_36, ↓v130_37, ↓v130_38, ↓v130_39, ↓v130_42, ↓v130_45, ↓v130_46, ↓v130_47, ↓v130_48, ↓v130_49, ↓v130_52, ↓v130_55, ↓v130_56, ↓v130_59, ↓v130_60, ↓v130_61, ↓v130_62, ↓v130_63, ↓v130_66, ↓v130_67, ↓v130_68, ↓v130_71, ↓v130_74, ↓v130_75, ↓v130_76, ↓v130_79, ↓v130_80, ↓v130_83, ↓qI_c, ↓qL_c, ↓qR_c, ↓pA_o, ↓qC_i, ↓qC_r, ↓oA_s, ↓gI_0, ↓gI_1, ↓gI_2, ↓gI_3, ↓gI_4, ↓gI_5, ↓gI_6, ↓gI_7, ↓gI_8, ↓gI_9, ↓gI_10, ↓gR_0, ↓gR_1, ↓gR_2, ↓gR_3, ↓gR_4, ↓gR_5, ↓gR_6, ↓gR_7, ↓gR_8, ↓gR_9, ↓gR_10, ↓sL_0, ↓sL_1, ↓sL_2, ↓sL_3, ↓sL_4, ↓sL_5, ↓sL_6, ↓sL_7, ↓sL_8, ↓sL_9, ↓sL_10, ↓rrf_si, ↓rrf_sg, ↓shO_si, ↓shO_sg, ↓shO_sr, ↓shA_si, ↓shA_sg, ↓shA_sr, ↓pAs_0, ↓pAs_i, ↓pAs_r, stk_n, stk_i, stk_l, stk_r, List.nil_append, List.cons_append, true_and, and_true, true_or, or_true, Nat.zero_add, dp_s, Nat.reduceAdd, le8_0, le8_1, le8_2, le8_3, le8_4, le8_5, le8_6, le8_7, le8_8, Classical.not_not, aT40, aT41, aT42, aT44, aT54, aT58, aT59, rT54, rT58, rT59, reduceIte, Nat.reduceEqDiff, qn_42, qn_44, true_implies, not_true_eq_false, not_false_eq_true, false_implies, i00]
      exact hk M1 h1 rr1
    obtain ⟨j, hj, rfl⟩ := inB_of hin (by omega)
    rw [keyOf_n hj] at hk
    refine vc_X 20 _ _ _ _ _ _ _ ?_
    simp only [↓v130_0, ↓v130_1, ↓v130_2, ↓v130_5, ↓v130_6, ↓v130_9, ↓v130_12, ↓v130_13, ↓v130_16, ↓v130_19, ↓v130_20, ↓v130_21, ↓v130_24, ↓v130_25, ↓v130_28, ↓v130_29, ↓v130_30, ↓v130_31, ↓v130_32, ↓v130_35, ↓v130_36, ↓v130_37, ↓v130_38, ↓v130_39, ↓v130_42, ↓v130_45, ↓v130_46, ↓v130_47, ↓v130_48, ↓v130_49, ↓v130_52, ↓v130_55, ↓v130_56, ↓v130_59, ↓v130_60, ↓v130_61, ↓v130_62, ↓v130_63, ↓v130_66, ↓v130_67, ↓v130_68, ↓v130_71, ↓v130_74, ↓v130_75, ↓v130_76, ↓v130_79, ↓v130_80, ↓v130_83, ↓qI_c, ↓qL_c, ↓qR_c, ↓pA_o, ↓qC_i, ↓qC_r, ↓oA_s, ↓gI_0, ↓gI_1, ↓gI_2, ↓gI_3, ↓gI_4, ↓gI_5, ↓gI_6, ↓gI_7, ↓gI_8, ↓gI_9, ↓gI_10, ↓gR_0, ↓gR_1, ↓gR_2, ↓gR_3, ↓gR_4, ↓gR_5, ↓gR_6, ↓gR_7, ↓gR_8, ↓gR_9, ↓gR_10, ↓sL_0, ↓sL_1, ↓sL_2, ↓sL_3, ↓sL_4, ↓sL_5, ↓sL_6, ↓sL_7, ↓sL_8, ↓sL_9, ↓sL_10, ↓rrf_si, ↓rrf_sg, ↓shO_si, ↓shO_sg, ↓shO_sr, ↓shA_si, ↓shA_sg, ↓shA_sr, ↓pAs_0, ↓pAs_i, ↓pAs_r, stk_n, stk_i, stk_l, stk_r, List.nil_append, List.cons_append, true_and, and_true, true_or, or_true, Nat.zero_add, dp_s, Nat.reduceAdd, le8_0, le8_1, le8_2, le8_3, le8_4, le8_5, le8_6, le8_7, le8_8, Classical.not_not, aT40, aT41, aT42, aT44, aT54, aT58, aT59, rT54, rT58, rT59, reduceIte, Nat.reduceEqDiff, qn_42, qn_44, true_implies, not_true_eq_false, not_false_eq_true, false_implies, i10, ↓shO_of hs1.1.1]
    refine f129 h1 hj ⟨_, rfl, ?_⟩
    cases hp : plO s.ch s.tb (some j) with
    | none =>
      rw [hp] at hk
      refine vc_X 20 _ _ _ _ _ _ _ ?_
      simp only [↓v130_0, ↓v130_1, ↓v130_2, ↓v130_5, ↓v130_6, ↓v130_9, ↓v130_12, ↓v130_13, ↓v130_16, ↓v130_19, ↓v130_20, ↓v130_21, ↓v130_24, ↓v130_25, ↓v130_28, ↓v130_29, ↓v130_30, ↓v130_31, ↓v130_32, ↓v130_35, ↓v130_36, ↓v130_37, ↓v130_38, ↓v130_39, ↓v130_42, ↓v130_45, ↓v130_46, ↓v130_47, ↓v130_48, ↓v130_49, ↓v130_52, ↓v130_55, ↓v130_56, ↓v130_59, ↓v130_60, ↓v130_61, ↓v130_62, ↓v130_63, ↓v130_66, ↓v130_67, ↓v130_68, ↓v130_71, ↓v130_74, ↓v130_75, ↓v130_76, ↓v130_79, ↓v130_80, ↓v130_83, ↓qI_c, ↓qL_c, ↓qR_c, ↓pA_o, ↓qC_i, ↓qC_r, ↓oA_s, ↓gI_0, ↓gI_1, ↓gI_2, ↓gI_3, ↓gI_4, ↓gI_5, ↓gI_6, ↓gI_7, ↓gI_8, ↓gI_9, ↓gI_10, ↓gR_0, ↓gR_1, ↓gR_2, ↓gR_3, ↓gR_4, ↓gR_5, ↓gR_6, ↓gR_7, ↓gR_8, ↓gR_9, ↓gR_10, ↓sL_0, ↓sL_1, ↓sL_2, ↓sL_3, ↓sL_4, ↓sL_5, ↓sL_6, ↓sL_7, ↓sL_8, ↓sL_9, ↓sL_10, ↓rrf_si, ↓rrf_sg, ↓shO_si, ↓shO_sg, ↓shO_sr, ↓shA_si, ↓shA_sg, ↓shA_sr, ↓pAs_0, ↓pAs_i, ↓pAs_r, stk_n, stk_i, stk_l, stk_r, List.nil_append, List.cons_append, true_and, and_true, true_or, or_true, Nat.zero_add, dp_s, Nat.reduceAdd, le8_0, le8_1, le8_2, le8_3, le8_4, le8_5, le8_6, le8_7, le8_8, Classical.not_not, aT40, aT41, aT42, aT44, aT54, aT58, aT59, rT54, rT58, rT59, reduceIte, Nat.reduceEqDiff, qn_42, qn_44, true_implies, not_true_eq_false, not_false_eq_true, false_implies, oI_none, m11]
      exact hk M1 h1 rr1
    | some p =>
      rw [hp] at hk
      have hk : ∀ M', RP M' r (sT (s.tp, ctS s.V p (lnS s.V p)) (sC (usC s.ws s.C p (nbS s.V p)) s)) → Rr r M M' → k (some (.inl (nI (lnS s.V p)))) M' := hk
      have on := hi.1 ho
      obtain ⟨w1, w2, w3, w4, w5, w6, w7, w8⟩ := on.2.2.2.1
      obtain ⟨p1, p2⟩ := w5 j p hj hp
      have p2 : lnS s.V p ≤ 100 := p2
      have p3 : p % 16 + nbS s.V p ≤ s.pt (p / 16) := w6 p (Or.inl ⟨j, hj, hp⟩)
      have p4 := w1 (p / 16) (by omega)
      have p5 : nbS s.V p = (lnS s.V p + 23) / 16 := rfl
      have hCb : s.C.2 ≤ 60 * c := hi.2.2.1.2.2.2.2
      have e1 : oI (some p) = nI p := rfl
      refine vc_X 20 _ _ _ _ _ _ _ ?_
      simp only [↓v130_0, ↓v130_1, ↓v130_2, ↓v130_5, ↓v130_6, ↓v130_9, ↓v130_12, ↓v130_13, ↓v130_16, ↓v130_19, ↓v130_20, ↓v130_21, ↓v130_24, ↓v130_25, ↓v130_28, ↓v130_29, ↓v130_30, ↓v130_31, ↓v130_32, ↓v130_35, ↓v130_36, ↓v130_37, ↓v130_38, ↓v130_39, ↓v130_42, ↓v130_45, ↓v130_46, ↓v130_47, ↓v130_48, ↓v130_49, ↓v130_52, ↓v130_55, ↓v130_56, ↓v130_59, ↓v130_60, ↓v130_61, ↓v130_62, ↓v130_63, ↓v130_66, ↓v130_67, ↓v130_68, ↓v130_71, ↓v130_74, ↓v130_75, ↓v130_76, ↓v130_79, ↓v130_80, ↓v130_83, ↓qI_c, ↓qL_c, ↓qR_c, ↓pA_o, ↓qC_i, ↓qC_r, ↓oA_s, ↓gI_0, ↓gI_1, ↓gI_2, ↓gI_3, ↓gI_4, ↓gI_5, ↓gI_6, ↓gI_7, ↓gI_8, ↓gI_9, ↓gI_10, ↓gR_0, ↓gR_1, ↓gR_2, ↓gR_3, ↓gR_4, ↓gR_5, ↓gR_6, ↓gR_7, ↓gR_8, ↓gR_9, ↓gR_10, ↓sL_0, ↓sL_1, ↓sL_2, ↓sL_3, ↓sL_4, ↓sL_5, ↓sL_6, ↓sL_7, ↓sL_8, ↓sL_9, ↓sL_10, ↓rrf_si, ↓rrf_sg, ↓shO_si, ↓shO_sg, ↓shO_sr, ↓shA_si, ↓shA_sg, ↓shA_sr, ↓pAs_0, ↓pAs_i, ↓pAs_r, stk_n, stk_i, stk_l, stk_r, List.nil_append, List.cons_append, true_and, and_true, true_or, or_true, Nat.zero_add, dp_s, Nat.reduceAdd, le8_0, le8_1, le8_2, le8_3, le8_4, le8_5, le8_6, le8_7, le8_8, Classical.not_not, aT40, aT41, aT42, aT44, aT54, aT58, aT59, rT54, rT58, rT59, reduceIte, Nat.reduceEqDiff, qn_42, qn_44, true_implies, not_true_eq_false, not_false_eq_true, false_implies, e1, nI_nm (show p < 2147483648 by omega) (show ((-1 : Int32)).toInt < 0 by decide), ↓shO_of hs1.1.1]
      refine f129 h1 hj ⟨_, rfl, ?_⟩
      rw [hp]
      have hrd := h1.rd2 hi
      refine vc_X 20 _ _ _ _ _ _ _ ?_
      simp only [↓v130_0, ↓v130_1, ↓v130_2, ↓v130_5, ↓v130_6, ↓v130_9, ↓v130_12, ↓v130_13, ↓v130_16, ↓v130_19, ↓v130_20, ↓v130_21, ↓v130_24, ↓v130_25, ↓v130_28, ↓v130_29, ↓v130_30, ↓v130_31, ↓v130_32, ↓v130_35, ↓v130_36, ↓v130_37, ↓v130_38, ↓v130_39, ↓v130_42, ↓v130_45, ↓v130_46, ↓v130_47, ↓v130_48, ↓v130_49, ↓v130_52, ↓v130_55, ↓v130_56, ↓v130_59, ↓v130_60, ↓v130_61, ↓v130_62, ↓v130_63, ↓v130_66, ↓v130_67, ↓v130_68, ↓v130_71, ↓v130_74, ↓v130_75, ↓v130_76, ↓v130_79, ↓v130_80, ↓v130_83, ↓qI_c, ↓qL_c, ↓qR_c, ↓pA_o, ↓qC_i, ↓qC_r, ↓oA_s, ↓gI_0, ↓gI_1, ↓gI_2, ↓gI_3, ↓gI_4, ↓gI_5, ↓gI_6, ↓gI_7, ↓gI_8, ↓gI_9, ↓gI_10, ↓gR_0, ↓gR_1, ↓gR_2, ↓gR_3, ↓gR_4, ↓gR_5, ↓gR_6, ↓gR_7, ↓gR_8, ↓gR_9, ↓gR_10, ↓sL_0, ↓sL_1, ↓sL_2, ↓sL_3, ↓sL_4, ↓sL_5, ↓sL_6, ↓sL_7, ↓sL_8, ↓sL_9, ↓sL_10, ↓rrf_si, ↓rrf_sg, ↓shO_si, ↓shO_sg, ↓shO_sr, ↓shA_si, ↓shA_sg, ↓shA_sr, ↓pAs_0, ↓pAs_i, ↓pAs_r, stk_n, stk_i, stk_l, stk_r, List.nil_append, List.cons_append, true_and, and_true, true_or, or_true, Nat.zero_add, dp_s, Nat.reduceAdd, le8_0, le8_1, le8_2, le8_3, le8_4, le8_5, le8_6, le8_7, le8_8, Classical.not_not, aT40, aT41, aT42, aT44, aT54, aT58, aT59, rT54, rT58, rT59, reduceIte, Nat.reduceEqDiff, qn_42, qn_44, true_implies, not_true_eq_false, not_false_eq_true, false_implies, e1, ↓shO_of hs1.1.1]
      refine e131 hrd p1 ⟨_, rfl, ?_⟩
      refine vc_X 20 _ _ _ _ _ _ _ ?_
      simp only [↓v130_0, ↓v130_1, ↓v130_2, ↓v130_5, ↓v130_6, ↓v130_9, ↓v130_12, ↓v130_13, ↓v130_16, ↓v130_19, ↓v130_20, ↓v130_21, ↓v130_24, ↓v130_25, ↓v130_28, ↓v130_29, ↓v130_30, ↓v130_31, ↓v130_32, ↓v130_35, ↓v130_36, ↓v130_37, ↓v130_38, ↓v130_39, ↓v130_42, ↓v130_45, ↓v130_46, ↓v130_47, ↓v130_48, ↓v130_49, ↓v130_52, ↓v130_55, ↓v130_56, ↓v130_59, ↓v130_60, ↓v130_61, ↓v130_62, ↓v130_63, ↓v130_66, ↓v130_67, ↓v130_68, ↓v130_71, ↓v130_74, ↓v130_75, ↓v130_76, ↓v130_79, ↓v130_80, ↓v130_83, ↓qI_c, ↓qL_c, ↓qR_c, ↓pA_o, ↓qC_i, ↓qC_r, ↓oA_s, ↓gI_0, ↓gI_1, ↓gI_2, ↓gI_3, ↓gI_4, ↓gI_5, ↓gI_6, ↓gI_7, ↓gI_8, ↓gI_9, ↓gI_10, ↓gR_0, ↓gR_1, ↓gR_2, ↓gR_3, ↓gR_4, ↓gR_5, ↓gR_6, ↓gR_7, ↓gR_8, ↓gR_9, ↓gR_10, ↓sL_0, ↓sL_1, ↓sL_2, ↓sL_3, ↓sL_4, ↓sL_5, ↓sL_6, ↓sL_7, ↓sL_8, ↓sL_9, ↓sL_10, ↓rrf_si, ↓rrf_sg, ↓shO_si, ↓shO_sg, ↓shO_sr, ↓shA_si, ↓shA_sg, ↓shA_sr, ↓pAs_0, ↓pAs_i, ↓pAs_r, stk_n, stk_i, stk_l, stk_r, List.nil_append, List.cons_append, true_and, and_true, true_or, or_true, Nat.zero_add, dp_s, Nat.reduceAdd, le8_0, le8_1, le8_2, le8_3, le8_4, le8_5, le8_6, le8_7, le8_8, Classical.not_not, aT40, aT41, aT42, aT44, aT54, aT58, aT59, rT54, rT58, rT59, reduceIte, Nat.reduceEqDiff, qn_42, qn_44, true_implies, not_true_eq_false, not_false_eq_true, false_implies, ↓shO_of hs1.1.1]
      show X _ 130 47 _ [] (M1.si r 34 (nI (lnS s.V p))) k
      generalize hM2 : M1.si r 34 (nI (lnS s.V p)) = M2
      have o2 : Rf r (· = r + 18) [34] M1 M2 := by rw [← hM2]; exact Rf.rf_.fld (by simp)
      have f34 : M2.it r 34 = nI (lnS s.V p) := by rw [← hM2, si_it, if_pos ⟨rfl, rfl⟩]
      have hvb : ∀ i, i < lnS s.V p → s.V (p + (i + 6) / 16) ((i + 6) % 16) < 256 := fun i hi2 => on.vb hi.bt (by omega) _
      have lop : ∀ (m i : Nat) (M3 : Mm), i + m = lnS s.V p → Rf r (· = r + 18) [34] M1 M3 → M3.it r 34 = nI (lnS s.V p) → (∀ q, q < i → M3.it (r + 18) q &&& 255 = nI (s.V (p + (q + 6) / 16) ((q + 6) % 16))) → X (d + 4) 130 47 [some (.inr (some r)), some (.inl (nI j)), some (.inl (nI p)), some (.inl (nI i))] [] M3 k := by
        intro m
        induction m with
        | zero =>
          intro i M3 him o3 g34 hb
          have e : i = lnS s.V p := by omega
          subst e
          have hs3 := hs1.oi o3.1
          have rd3 := hrd.rf o3 (fun y y1 y2 q => by omega) (by omega) (by simp)
          have ca3 := h1.ca.rf o3 (by omega) (by simp) (by simp)
          refine vc_X 20 _ _ _ _ _ _ _ ?_
          simp only [↓v130_0, ↓v130_1, ↓v130_2, ↓v130_5, ↓v130_6, ↓v130_9, ↓v130_12, ↓v130_13, ↓v130_16, ↓v130_19, ↓v130_20, ↓v130_21, ↓v130_24, ↓v130_25, ↓v130_28, ↓v130_29, ↓v130_30, ↓v130_31, ↓v130_32, ↓v130_35, ↓v130_36, ↓v130_37, ↓v130_38, ↓v130_39, ↓v130_42, ↓v130_45, ↓v130_46, ↓v130_47, ↓v130_48, ↓v130_49, ↓v130_52, ↓v130_55, ↓v130_56, ↓v130_59, ↓v130_60, ↓v130_61, ↓v130_62, ↓v130_63, ↓v130_66, ↓v130_67, ↓v130_68, ↓v130_71, ↓v130_74, ↓v130_75, ↓v130_76, ↓v130_79, ↓v130_80, ↓v130_83, ↓qI_c, ↓qL_c, ↓qR_c, ↓pA_o, ↓qC_i, ↓qC_r, ↓oA_s, ↓gI_0, ↓gI_1, ↓gI_2, ↓gI_3, ↓gI_4, ↓gI_5, ↓gI_6, ↓gI_7, ↓gI_8, ↓gI_9, ↓gI_10, ↓gR_0, ↓gR_1, ↓gR_2, ↓gR_3, ↓gR_4, ↓gR_5, ↓gR_6, ↓gR_7, ↓gR_8, ↓gR_9, ↓gR_10, ↓sL_0, ↓sL_1, ↓sL_2, ↓sL_3, ↓sL_4, ↓sL_5, ↓sL_6, ↓sL_7, ↓sL_8, ↓sL_9, ↓sL_10, ↓rrf_si, ↓rrf_sg, ↓shO_si, ↓shO_sg, ↓shO_sr, ↓shA_si, ↓shA_sg, ↓shA_sr, ↓pAs_0, ↓pAs_i, ↓pAs_r, stk_n, stk_i, stk_l, stk_r, List.nil_append, List.cons_append, true_and, and_true, true_or, or_true, Nat.zero_add, dp_s, Nat.reduceAdd, le8_0, le8_1, le8_2, le8_3, le8_4, le8_5, le8_6, le8_7, le8_8, Classical.not_not, aT40, aT41, aT42, aT44, aT54, aT58, aT59, rT54, rT58, rT59, reduceIte, Nat.reduceEqDiff, qn_42, qn_44, true_implies, not_true_eq_false, not_false_eq_true, false_implies, le_T, nT (show lnS s.V p < 2147483648 by omega), ↓shO_of hs3.1.1, g34, Int.le_refl]
          refine e135 rd3 ca3 p1 (by omega) (fun M4 ca4 o4 => ⟨rfl, ?_⟩)
          have hs4 := hs3.oi o4.1
          have g34' : M4.it r 34 = nI (lnS s.V p) := by rw [o4.2 34 (by simp)]; exact g34
          refine vc_X 20 _ _ _ _ _ _ _ ?_
          simp only [↓v130_0, ↓v130_1, ↓v130_2, ↓v130_5, ↓v130_6, ↓v130_9, ↓v130_12, ↓v130_13, ↓v130_16, ↓v130_19, ↓v130_20, ↓v130_21, ↓v130_24, ↓v130_25, ↓v130_28, ↓v130_29, ↓v130_30, ↓v130_31, ↓v130_32, ↓v130_35, ↓v130_36, ↓v130_37, ↓v130_38, ↓v130_39, ↓v130_42, ↓v130_45, ↓v130_46, ↓v130_47, ↓v130_48, ↓v130_49, ↓v130_52, ↓v130_55, ↓v130_56, ↓v130_59, ↓v130_60, ↓v130_61, ↓v130_62, ↓v130_63, ↓v130_66, ↓v130_67, ↓v130_68, ↓v130_71, ↓v130_74, ↓v130_75, ↓v130_76, ↓v130_79, ↓v130_80, ↓v130_83, ↓qI_c, ↓qL_c, ↓qR_c, ↓pA_o, ↓qC_i, ↓qC_r, ↓oA_s, ↓gI_0, ↓gI_1, ↓gI_2, ↓gI_3, ↓gI_4, ↓gI_5, ↓gI_6, ↓gI_7, ↓gI_8, ↓gI_9, ↓gI_10, ↓gR_0, ↓gR_1, ↓gR_2, ↓gR_3, ↓gR_4, ↓gR_5, ↓gR_6, ↓gR_7, ↓gR_8, ↓gR_9, ↓gR_10, ↓sL_0, ↓sL_1, ↓sL_2, ↓sL_3, ↓sL_4, ↓sL_5, ↓sL_6, ↓sL_7, ↓sL_8, ↓sL_9, ↓sL_10, ↓rrf_si, ↓rrf_sg, ↓shO_si, ↓shO_sg, ↓shO_sr, ↓shA_si, ↓shA_sg, ↓shA_sr, ↓pAs_0, ↓pAs_i, ↓pAs_r, stk_n, stk_i, stk_l, stk_r, List.nil_append, List.cons_append, true_and, and_true, true_or, or_true, Nat.zero_add, dp_s, Nat.reduceAdd, le8_0, le8_1, le8_2, le8_3, le8_4, le8_5, le8_6, le8_7, le8_8, Classical.not_not, aT40, aT41, aT42, aT44, aT54, aT58, aT59, rT54, rT58, rT59, reduceIte, Nat.reduceEqDiff, qn_42, qn_44, true_implies, not_true_eq_false, not_false_eq_true, false_implies, ↓shO_of hs4.1.1, g34']
          have o14 : Rf r (fun y => y = r + 17 ∨ y = r + 18) [27, 28, 34] M1 M4 := (o3.mono (fun x q => Or.inr q) (fun x q => by simp at q ⊢; omega)).trans o4 (fun x q => Or.inl q) (fun x q => by simp at q ⊢; omega)
          refine hk M4 (h1.uGet o14 (by decide) ⟨by omega, by omega, by omega, by omega, by omega, by omega, by omega, by omega, by omega, fun y y1 y2 => by omega⟩ ca4.1 ca4.2.2.2 ?_ ca4.c2 (fun q v hq => ?_)) (rr1.trans (o14.rr (fun y q => by omega)) (fun _ q => q))
          · show M4.it r 34 = nI (ctS s.V p (lnS s.V p)).length
            rw [ctS_len]; exact g34'
          · have hq : (ctS s.V p (lnS s.V p))[q]? = some v := hq
            have hql := (List.getElem?_eq_some_iff.mp hq).1
            rw [ctS_len] at hql
            rw [o4.at_ (by omega) (by omega), hb q hql]
            unfold ctS at hq
            rw [List.getElem?_map, List.getElem?_range hql] at hq
            cases hq
            rfl
        | succ m ih =>
          intro i M3 him o3 g34 hb
          have hs3 := hs1.oi o3.1
          have rd3 := hrd.rf o3 (fun y y1 y2 q => by omega) (by omega) (by simp)
          refine vc_X 20 _ _ _ _ _ _ _ ?_
          simp only [↓v130_0, ↓v130_1, ↓v130_2, ↓v130_5, ↓v130_6, ↓v130_9, ↓v130_12, ↓v130_13, ↓v130_16, ↓v130_19, ↓v130_20, ↓v130_21, ↓v130_24, ↓v130_25, ↓v130_28, ↓v130_29, ↓v130_30, ↓v130_31, ↓v130_32, ↓v130_35, ↓v130_36, ↓v130_37, ↓v130_38, ↓v130_39, ↓v130_42, ↓v130_45, ↓v130_46, ↓v130_47, ↓v130_48, ↓v130_49, ↓v130_52, ↓v130_55, ↓v130_56, ↓v130_59, ↓v130_60, ↓v130_61, ↓v130_62, ↓v130_63, ↓v130_66, ↓v130_67, ↓v130_68, ↓v130_71, ↓v130_74, ↓v130_75, ↓v130_76, ↓v130_79, ↓v130_80, ↓v130_83, ↓qI_c, ↓qL_c, ↓qR_c, ↓pA_o, ↓qC_i, ↓qC_r, ↓oA_s, ↓gI_0, ↓gI_1, ↓gI_2, ↓gI_3, ↓gI_4, ↓gI_5, ↓gI_6, ↓gI_7, ↓gI_8, ↓gI_9, ↓gI_10, ↓gR_0, ↓gR_1, ↓gR_2, ↓gR_3, ↓gR_4, ↓gR_5, ↓gR_6, ↓gR_7, ↓gR_8, ↓gR_9, ↓gR_10, ↓sL_0, ↓sL_1, ↓sL_2, ↓sL_3, ↓sL_4, ↓sL_5, ↓sL_6, ↓sL_7, ↓sL_8, ↓sL_9, ↓sL_10, ↓rrf_si, ↓rrf_sg, ↓shO_si, ↓shO_sg, ↓shO_sr, ↓shA_si, ↓shA_sg, ↓shA_sr, ↓pAs_0, ↓pAs_i, ↓pAs_r, stk_n, stk_i, stk_l, stk_r, List.nil_append, List.cons_append, true_and, and_true, true_or, or_true, Nat.zero_add, dp_s, Nat.reduceAdd, le8_0, le8_1, le8_2, le8_3, le8_4, le8_5, le8_6, le8_7, le8_8, Classical.not_not, aT40, aT41, aT42, aT44, aT54, aT58, aT59, rT54, rT58, rT59, reduceIte, Nat.reduceEqDiff, qn_42, qn_44, true_implies, not_true_eq_false, not_false_eq_true, false_implies, le_T, nT (show i < 2147483648 by omega), nT (show lnS s.V p < 2147483648 by omega), ↓shO_of hs3.1.1, g34, ↓rrf_of hs3.2.2.1.2.2.2.1]
          refine ⟨fun c => by omega, fun _ => e134 rd3 (by omega) (by omega) ⟨_, rfl, ?_⟩⟩
          have hv := hvb i (by omega)
          refine vc_X 20 _ _ _ _ _ _ _ ?_
          simp only [↓v130_0, ↓v130_1, ↓v130_2, ↓v130_5, ↓v130_6, ↓v130_9, ↓v130_12, ↓v130_13, ↓v130_16, ↓v130_19, ↓v130_20, ↓v130_21, ↓v130_24, ↓v130_25, ↓v130_28, ↓v130_29, ↓v130_30, ↓v130_31, ↓v130_32, ↓v130_35, ↓v130_36, ↓v130_37, ↓v130_38, ↓v130_39, ↓v130_42, ↓v130_45, ↓v130_46, ↓v130_47, ↓v130_48, ↓v130_49, ↓v130_52, ↓v130_55, ↓v130_56, ↓v130_59, ↓v130_60, ↓v130_61, ↓v130_62, ↓v130_63, ↓v130_66, ↓v130_67, ↓v130_68, ↓v130_71, ↓v130_74, ↓v130_75, ↓v130_76, ↓v130_79, ↓v130_80, ↓v130_83, ↓qI_c, ↓qL_c, ↓qR_c, ↓pA_o, ↓qC_i, ↓qC_r, ↓oA_s, ↓gI_0, ↓gI_1, ↓gI_2, ↓gI_3, ↓gI_4, ↓gI_5, ↓gI_6, ↓gI_7, ↓gI_8, ↓gI_9, ↓gI_10, ↓gR_0, ↓gR_1, ↓gR_2, ↓gR_3, ↓gR_4, ↓gR_5, ↓gR_6, ↓gR_7, ↓gR_8, ↓gR_9, ↓gR_10, ↓sL_0, ↓sL_1, ↓sL_2, ↓sL_3, ↓sL_4, ↓sL_5, ↓sL_6, ↓sL_7, ↓sL_8, ↓sL_9, ↓sL_10, ↓rrf_si, ↓rrf_sg, ↓shO_si, ↓shO_sg, ↓shO_sr, ↓shA_si, ↓shA_sg, ↓shA_sr, ↓pAs_0, ↓pAs_i, ↓pAs_r, stk_n, stk_i, stk_l, stk_r, List.nil_append, List.cons_append, true_and, and_true, true_or, or_true, Nat.zero_add, dp_s, Nat.reduceAdd, le8_0, le8_1, le8_2, le8_3, le8_4, le8_5, le8_6, le8_7, le8_8, Classical.not_not, aT40, aT41, aT42, aT44, aT54, aT58, aT59, rT54, rT58, rT59, reduceIte, Nat.reduceEqDiff, qn_42, qn_44, true_implies, not_true_eq_false, not_false_eq_true, false_implies, ↓shA_of hs3.2.2.2.2.2.2.1, nC (show i < 2147483648 by omega), nI_1]
          refine ⟨inB_n (by omega) (by omega), ?_⟩
          refine ih (i + 1) _ (by omega) (o3.row rfl (by omega)) (by rw [si_it, if_neg (by omega)]; exact g34) (fun q hq => ?_)
          rw [si_it]
          by_cases cq : q = i
          · rw [if_pos ⟨rfl, cq⟩, cq]
            exact b8 hv
          · rw [if_neg (fun z => cq z.2)]
            exact hb q (by omega)
      exact lop (lnS s.V p) 0 M2 (by omega) o2 f34 (fun q hq => by omega)
theorem ishr_and (v : Int32) (sh : Nat) (hs : sh = 0 ∨ sh = 8 ∨ sh = 16 ∨ sh = 24) : (v >>> (nI sh &&& 31)) &&& 255 = nI (v.toBitVec.toNat / 2 ^ sh % 256) := by
  have key : ∀ c : Int32, c.toBitVec.smod 32 = BitVec.ofNat 32 sh → sh ≤ 24 → (v >>> c) &&& 255 = nI (v.toBitVec.toNat / 2 ^ sh % 256) := by
    intro c hc hle
    apply Int32.toBitVec_inj.mp
    rw [Int32.toBitVec_and, Int32.toBitVec_shiftRight]
    have e2 : (255 : Int32).toBitVec = 255#32 := rfl
    have e3 : (nI (v.toBitVec.toNat / 2 ^ sh % 256)).toBitVec = BitVec.ofNat 32 (v.toBitVec.toNat / 2 ^ sh % 256) := rfl
    have hc2 : c.toBitVec.smod (BitVec.ofInt 32 32) = BitVec.ofNat 32 sh := hc
    rw [e2, e3]
    apply BitVec.eq_of_getLsbD_eq
    intro i hi
    rw [BitVec.getLsbD_and, BitVec.getLsbD_ofNat]
    have hsm : (c.toBitVec.smod 32).toNat = sh := by
      rw [hc, BitVec.toNat_ofNat]
      omega
    rw [show v.toBitVec.sshiftRight' (c.toBitVec.smod 32) = v.toBitVec.sshiftRight (c.toBitVec.smod 32).toNat from rfl, hsm, BitVec.getLsbD_sshiftRight]
    have h256 : (256 : Nat) = 2 ^ 8 := rfl
    rw [h256, BitVec.getLsbD_ofNat, Nat.testBit_mod_two_pow, Nat.testBit_div_two_pow]
    by_cases h : i < 8
    · have h255 : (255).testBit i = true := by
        have : ∀ i, i < 8 → (255).testBit i = true := by decide
        exact this i h
      have hv : v.toBitVec.getLsbD (sh + i) = v.toBitVec.toNat.testBit (i + sh) := by rw [Nat.add_comm]; rfl
      rw [h255]
      simp [h, hi, show ¬ 32 ≤ i by omega, show sh + i < 32 by omega]
      exact (BitVec.getLsbD_eq_getElem (by omega)).symm.trans hv
    · have : (255).testBit i = false := Nat.testBit_lt_two_pow (Nat.lt_of_lt_of_le (by decide : 255 < 2 ^ 8) (Nat.pow_le_pow_right (by decide) (by omega)))
      rw [this]
      simp [h]
  rcases hs with h | h | h | h <;> subst h <;> exact key _ (by decide) (by omega)
theorem d117 {d c : Nat} {M : Mm} {k : mQ} {r : Nat} {s : Ms} {x1 x2 x3 x4 x5 : Int32} (h : RP M r s) (hi : IvS c s) (hk : ∀ M', RP M' r (mFeed x1 x2 x3 x4 x5 s).2 → Rr r M M' → k (some (.inl (mFeed x1 x2 x3 x4 x5 s).1)) M') : XC (d + 1) 117 [.inr (some r), .inl x1, .inl x2, .inl x3, .inl x4, .inl x5] M k := by
  obtain ⟨h1, o1⟩ := h.th
  have rr1 : Rr r M (M.si r 0 0) := o1.rr (fun _ q => q.elim)
  generalize hM1 : M.si r 0 0 = M1 at h1 o1 rr1
  have hs := h.1
  have hs1 := h1.1
  have f2 : M1.it r 2 = nI s.tp.length := h1.2.1.1.1
  have hl : s.tp.length ≤ 200 := hi.2.2.2.2.2.2.1.1
  have e1 : nI s.tp.length + 20 = nI (s.tp.length + 20) := by rw [n_20, nI_add]
  refine xc ?_
  show X d 117 0 [some (.inr (some r)), some (.inl x1), some (.inl x2), some (.inl x3), some (.inl x4), some (.inl x5), none, none] [] M k
  unfold mFeed at hk
  by_cases c1 : 200 < s.tp.length + 20
  · rw [if_pos c1] at hk
    refine vc_X 20 _ _ _ _ _ _ _ ?_
    simp only [↓v117_0, ↓v117_1, ↓v117_2, ↓v117_5, ↓v117_6, ↓v117_9, ↓v117_11, ↓v117_12, ↓v117_15, ↓v117_18, ↓v117_19, ↓v117_20, ↓v117_21, ↓v117_23, ↓v117_25, ↓v117_27, ↓v117_30, ↓v117_32, ↓v117_33, ↓v117_36, ↓v117_37, ↓v117_40, ↓v117_42, ↓v117_44, ↓v117_47, ↓v117_48, ↓v117_51, ↓v117_53, ↓v117_55, ↓v117_58, ↓v117_59, ↓v117_62, ↓v117_64, ↓v117_66, ↓v117_69, ↓v117_71, ↓v117_74, ↓v117_76, ↓v117_78, ↓v117_79, ↓v117_82, ↓v117_83, ↓v117_86, ↓v117_88, ↓v117_90, ↓v117_92, ↓v117_94, ↓v117_95, ↓v117_96, ↓v117_97, ↓v117_98, ↓v117_99, ↓v117_100, ↓v117_101, ↓v117_102, ↓v117_103, ↓v117_106, ↓v117_107, ↓v117_108, ↓v117_111, ↓v117_114, ↓v117_117, ↓v117_118, ↓v117_121, ↓qI_c, ↓qL_c, ↓qR_c, ↓pA_o, ↓qC_i, ↓qC_r, ↓oA_s, ↓gI_0, ↓gI_1, ↓gI_2, ↓gI_3, ↓gI_4, ↓gI_5, ↓gI_6, ↓gI_7, ↓gI_8, ↓gI_9, ↓gI_10, ↓gR_0, ↓gR_1, ↓gR_2, ↓gR_3, ↓gR_4, ↓gR_5, ↓gR_6, ↓gR_7, ↓gR_8, ↓gR_9, ↓gR_10, ↓sL_0, ↓sL_1, ↓sL_2, ↓sL_3, ↓sL_4, ↓sL_5, ↓sL_6, ↓sL_7, ↓sL_8, ↓sL_9, ↓sL_10, ↓rrf_si, ↓rrf_sg, ↓shO_si, ↓shO_sg, ↓shO_sr, ↓shA_si, ↓shA_sg, ↓shA_sr, ↓pAs_0, ↓pAs_i, ↓pAs_r, stk_n, stk_i, stk_l, stk_r, List.nil_append, List.cons_append, true_and, and_true, true_or, or_true, Nat.zero_add, dp_s, Nat.reduceAdd, le8_0, le8_1, le8_2, le8_3, le8_4, le8_5, le8_6, le8_7, le8_8, Classical.not_not, aT40, aT41, aT42, aT44, aT54, aT58, aT59, rT54, rT58, rT59, reduceIte, Nat.reduceEqDiff, qn_42, qn_44, true_implies, not_true_eq_false, not_false_eq_true, false_implies, hM1, ↓shO_of hs.1.1, f2, e1, le_T, T_200, nT (show s.tp.length + 20 < 2147483648 by omega)]
    exact ⟨fun c => by omega, fun _ => hk M1 h1 rr1⟩
  · rw [if_neg c1] at hk
    refine vc_X 20 _ _ _ _ _ _ _ ?_
    simp only [↓v117_0, ↓v117_1, ↓v117_2, ↓v117_5, ↓v117_6, ↓v117_9, ↓v117_11, ↓v117_12, ↓v117_15, ↓v117_18, ↓v117_19, ↓v117_20, ↓v117_21, ↓v117_23, ↓v117_25, ↓v117_27, ↓v117_30, ↓v117_32, ↓v117_33, ↓v117_36, ↓v117_37, ↓v117_40, ↓v117_42, ↓v117_44, ↓v117_47, ↓v117_48, ↓v117_51, ↓v117_53, ↓v117_55, ↓v117_58, ↓v117_59, ↓v117_62, ↓v117_64, ↓v117_66, ↓v117_69, ↓v117_71, ↓v117_74, ↓v117_76, ↓v117_78, ↓v117_79, ↓v117_82, ↓v117_83, ↓v117_86, ↓v117_88, ↓v117_90, ↓v117_92, ↓v117_94, ↓v117_95, ↓v117_96, ↓v117_97, ↓v117_98, ↓v117_99, ↓v117_100, ↓v117_101, ↓v117_102, ↓v117_103, ↓v117_106, ↓v117_107, ↓v117_108, ↓v117_111, ↓v117_114, ↓v117_117, ↓v117_118, ↓v117_121, ↓qI_c, ↓qL_c, ↓qR_c, ↓pA_o, ↓qC_i, ↓qC_r, ↓oA_s, ↓gI_0, ↓gI_1, ↓gI_2, ↓gI_3, ↓gI_4, ↓gI_5, ↓gI_6, ↓gI_7, ↓gI_8, ↓gI_9, ↓gI_10, ↓gR_0, ↓gR_1, ↓gR_2, ↓gR_3, ↓gR_4, ↓gR_5, ↓gR_6, ↓gR_7, ↓gR_8, ↓gR_9, ↓gR_10, ↓sL_0, ↓sL_1, ↓sL_2, ↓sL_3, ↓sL_4, ↓sL_5, ↓sL_6, ↓sL_7, ↓sL_8, ↓sL_9, ↓sL_10, ↓rrf_si, ↓rrf_sg, ↓shO_si, ↓shO_sg, ↓shO_sr, ↓shA_si, ↓shA_sg, ↓shA_sr, ↓pAs_0, ↓pAs_i, ↓pAs_r, stk_n, stk_i, stk_l, stk_r, List.nil_append, List.cons_append, true_and, and_true, true_or, or_true, Nat.zero_add, dp_s, Nat.reduceAdd, le8_0, le8_1, le8_2, le8_3, le8_4, le8_5, le8_6, le8_7, le8_8, Classical.not_not, aT40, aT41, aT42, aT44, aT54, aT58, aT59, rT54, rT58, rT59, reduceIte, Nat.reduceEqDiff, qn_42, qn_44, true_implies, not_true_eq_false, not_false_eq_true, false_implies, hM1, ↓shO_of hs.1.1, f2, e1, le_T, T_200, nT (show s.tp.length + 20 < 2147483648 by omega)]
    refine ⟨fun _ => ?_, fun c => by omega⟩
    have lop : ∀ (m i : Nat) (M3 : Mm) (z : Option mL), i + m = 20 → Rf r (· = r + 1) [2] M1 M3 → M3.it r 2 = nI (s.tp.length + i) → RB8 M3 (r + 1) (s.tp ++ (fdB x1 ++ fdB x2 ++ fdB x3 ++ fdB x4 ++ fdB x5).take i) → X d 117 23 [some (.inr (some r)), some (.inl x1), some (.inl x2), some (.inl x3), some (.inl x4), some (.inl x5), some (.inl (nI i)), z] [] M3 k := by
      intro m
      induction m with
      | zero =>
        intro i M3 z him o3 g2 hb
        have e : i = 20 := by omega
        subst e
        have hs3 := hs1.oi o3.1
        refine vc_X 20 _ _ _ _ _ _ _ ?_
        simp only [↓v117_0, ↓v117_1, ↓v117_2, ↓v117_5, ↓v117_6, ↓v117_9, ↓v117_11, ↓v117_12, ↓v117_15, ↓v117_18, ↓v117_19, ↓v117_20, ↓v117_21, ↓v117_23, ↓v117_25, ↓v117_27, ↓v117_30, ↓v117_32, ↓v117_33, ↓v117_36, ↓v117_37, ↓v117_40, ↓v117_42, ↓v117_44, ↓v117_47, ↓v117_48, ↓v117_51, ↓v117_53, ↓v117_55, ↓v117_58, ↓v117_59, ↓v117_62, ↓v117_64, ↓v117_66, ↓v117_69, ↓v117_71, ↓v117_74, ↓v117_76, ↓v117_78, ↓v117_79, ↓v117_82, ↓v117_83, ↓v117_86, ↓v117_88, ↓v117_90, ↓v117_92, ↓v117_94, ↓v117_95, ↓v117_96, ↓v117_97, ↓v117_98, ↓v117_99, ↓v117_100, ↓v117_101, ↓v117_102, ↓v117_103, ↓v117_106, ↓v117_107, ↓v117_108, ↓v117_111, ↓v117_114, ↓v117_117, ↓v117_118, ↓v117_121, ↓qI_c, ↓qL_c, ↓qR_c, ↓pA_o, ↓qC_i, ↓qC_r, ↓oA_s, ↓gI_0, ↓gI_1, ↓gI_2, ↓gI_3, ↓gI_4, ↓gI_5, ↓gI_6, ↓gI_7, ↓gI_8, ↓gI_9, ↓gI_10, ↓gR_0, ↓gR_1, ↓gR_2, ↓gR_3, ↓gR_4, ↓gR_5, ↓gR_6, ↓gR_7, ↓gR_8, ↓gR_9, ↓gR_10, ↓sL_0, ↓sL_1, ↓sL_2, ↓sL_3, ↓sL_4, ↓sL_5, ↓sL_6, ↓sL_7, ↓sL_8, ↓sL_9, ↓sL_10, ↓rrf_si, ↓rrf_sg, ↓shO_si, ↓shO_sg, ↓shO_sr, ↓shA_si, ↓shA_sg, ↓shA_sr, ↓pAs_0, ↓pAs_i, ↓pAs_r, stk_n, stk_i, stk_l, stk_r, List.nil_append, List.cons_append, true_and, and_true, true_or, or_true, Nat.zero_add, dp_s, Nat.reduceAdd, le8_0, le8_1, le8_2, le8_3, le8_4, le8_5, le8_6, le8_7, le8_8, Classical.not_not, aT40, aT41, aT42, aT44, aT54, aT58, aT59, rT54, rT58, rT59, reduceIte, Nat.reduceEqDiff, qn_42, qn_44, true_implies, not_true_eq_false, not_false_eq_true, false_implies, le_T, T_20, nT (show 20 < 2147483648 by omega), ↓shO_of hs3.1.1, g2]
        refine ⟨fun _ => ?_, fun c => absurd (by decide) c⟩
        refine hk M3 (h1.uT o3 (by decide) ⟨by omega, by omega, by omega, by omega, by omega, by omega, by omega, by omega, by omega, by omega, fun y y1 y2 => by omega⟩ ?_ hb) (rr1.trans (o3.rr (fun y q => by rw [q]; omega)) (fun _ q => q))
        rw [g2]
        show nI (s.tp.length + 20) = nI (s.tp ++ (fdB x1 ++ fdB x2 ++ fdB x3 ++ fdB x4 ++ fdB x5)).length
        rw [List.length_append]
        rfl
      | succ m ih =>
        intro i M3 z him o3 g2 hb
        have hs3 := hs1.oi o3.1
        have step : ∀ (v : Int32), (fdB x1 ++ fdB x2 ++ fdB x3 ++ fdB x4 ++ fdB x5)[i]? = some (byI v (24 - 8 * (i % 4))) → X d 117 76 [some (.inr (some r)), some (.inl x1), some (.inl x2), some (.inl x3), some (.inl x4), some (.inl x5), some (.inl (nI i)), z] [.inl v] M3 k := by
          intro v hv
          have e4 : nI i - nI i / 4 * 4 = nI (i % 4) := pk_rem (a := i) (d := 4) (by omega) (by omega) (by omega)
          have e5 : (24 : Int32) - 8 * nI (i % 4) = nI (24 - 8 * (i % 4)) := by rw [n_8, pk_mul, n_24, pk_sub (by omega)]
          refine vc_X 30 _ _ _ _ _ _ _ ?_
          simp only [↓v117_0, ↓v117_1, ↓v117_2, ↓v117_5, ↓v117_6, ↓v117_9, ↓v117_11, ↓v117_12, ↓v117_15, ↓v117_18, ↓v117_19, ↓v117_20, ↓v117_21, ↓v117_23, ↓v117_25, ↓v117_27, ↓v117_30, ↓v117_32, ↓v117_33, ↓v117_36, ↓v117_37, ↓v117_40, ↓v117_42, ↓v117_44, ↓v117_47, ↓v117_48, ↓v117_51, ↓v117_53, ↓v117_55, ↓v117_58, ↓v117_59, ↓v117_62, ↓v117_64, ↓v117_66, ↓v117_69, ↓v117_71, ↓v117_74, ↓v117_76, ↓v117_78, ↓v117_79, ↓v117_82, ↓v117_83, ↓v117_86, ↓v117_88, ↓v117_90, ↓v117_92, ↓v117_94, ↓v117_95, ↓v117_96, ↓v117_97, ↓v117_98, ↓v117_99, ↓v117_100, ↓v117_101, ↓v117_102, ↓v117_103, ↓v117_106, ↓v117_107, ↓v117_108, ↓v117_111, ↓v117_114, ↓v117_117, ↓v117_118, ↓v117_121, ↓qI_c, ↓qL_c, ↓qR_c, ↓pA_o, ↓qC_i, ↓qC_r, ↓oA_s, ↓gI_0, ↓gI_1, ↓gI_2, ↓gI_3, ↓gI_4, ↓gI_5, ↓gI_6, ↓gI_7, ↓gI_8, ↓gI_9, ↓gI_10, ↓gR_0, ↓gR_1, ↓gR_2, ↓gR_3, ↓gR_4, ↓gR_5, ↓gR_6, ↓gR_7, ↓gR_8, ↓gR_9, ↓gR_10, ↓sL_0, ↓sL_1, ↓sL_2, ↓sL_3, ↓sL_4, ↓sL_5, ↓sL_6, ↓sL_7, ↓sL_8, ↓sL_9, ↓sL_10, ↓rrf_si, ↓rrf_sg, ↓shO_si, ↓shO_sg, ↓shO_sr, ↓shA_si, ↓shA_sg, ↓shA_sr, ↓pAs_0, ↓pAs_i, ↓pAs_r, stk_n, stk_i, stk_l, stk_r, List.nil_append, List.cons_append, true_and, and_true, true_or, or_true, Nat.zero_add, dp_s, Nat.reduceAdd, le8_0, le8_1, le8_2, le8_3, le8_4, le8_5, le8_6, le8_7, le8_8, Classical.not_not, aT40, aT41, aT42, aT44, aT54, aT58, aT59, rT54, rT58, rT59, reduceIte, Nat.reduceEqDiff, qn_42, qn_44, true_implies, not_true_eq_false, not_false_eq_true, false_implies, ↓shO_of hs3.1.1, ↓rrf_of hs3.1.2.1, ↓shA_of hs3.2.2.2.1.1, g2, e4, e5, nC (show s.tp.length + i < 2147483648 by omega), nI_1]
          refine ⟨by decide, inB_n (by omega) (by omega), ?_⟩
          have hlt : i < (fdB x1 ++ fdB x2 ++ fdB x3 ++ fdB x4 ++ fdB x5).length := (List.getElem?_eq_some_iff.mp hv).1
          rw [si_it, if_neg (by omega), g2, nI_1]
          refine ih (i + 1) _ _ (by omega) ((o3.row rfl (by omega)).fld (by simp)) (by rw [si_it, if_pos ⟨rfl, rfl⟩]; rfl) (fun q w hq => ?_)
          rw [si_it, if_neg (by omega), si_it]
          rw [List.take_add_one, hv, ← List.append_assoc] at hq
          have hl2 : (s.tp ++ (fdB x1 ++ fdB x2 ++ fdB x3 ++ fdB x4 ++ fdB x5).take i).length = s.tp.length + i := by rw [List.length_append, List.length_take]; omega
          by_cases cq : q < s.tp.length + i
          · rw [if_neg (fun z => by omega)]
            rw [List.getElem?_append_left (by omega)] at hq
            exact hb q w hq
          · rw [List.getElem?_append_right (by omega), hl2] at hq
            have hq0 : q - (s.tp.length + i) = 0 := by
              have := (List.getElem?_eq_some_iff.mp hq).1
              simp at this
              omega
            rw [hq0] at hq
            cases hq
            rw [if_pos ⟨rfl, by omega⟩, nar_and, nar_and, ishr_and v _ (by omega)]
            rfl
        refine vc_X 30 _ _ _ _ _ _ _ ?_
        simp only [↓v117_0, ↓v117_1, ↓v117_2, ↓v117_5, ↓v117_6, ↓v117_9, ↓v117_11, ↓v117_12, ↓v117_15, ↓v117_18, ↓v117_19, ↓v117_20, ↓v117_21, ↓v117_23, ↓v117_25, ↓v117_27, ↓v117_30, ↓v117_32, ↓v117_33, ↓v117_36, ↓v117_37, ↓v117_40, ↓v117_42, ↓v117_44, ↓v117_47, ↓v117_48, ↓v117_51, ↓v117_53, ↓v117_55, ↓v117_58, ↓v117_59, ↓v117_62, ↓v117_64, ↓v117_66, ↓v117_69, ↓v117_71, ↓v117_74, ↓v117_76, ↓v117_78, ↓v117_79, ↓v117_82, ↓v117_83, ↓v117_86, ↓v117_88, ↓v117_90, ↓v117_92, ↓v117_94, ↓v117_95, ↓v117_96, ↓v117_97, ↓v117_98, ↓v117_99, ↓v117_100, ↓v117_101, ↓v117_102, ↓v117_103, ↓v117_106, ↓v117_107, ↓v117_108, ↓v117_111, ↓v117_114, ↓v117_117, ↓v117_118, ↓v117_121, ↓qI_c, ↓qL_c, ↓qR_c, ↓pA_o, ↓qC_i, ↓qC_r, ↓oA_s, ↓gI_0, ↓gI_1, ↓gI_2, ↓gI_3, ↓gI_4, ↓gI_5, ↓gI_6, ↓gI_7, ↓gI_8, ↓gI_9, ↓gI_10, ↓gR_0, ↓gR_1, ↓gR_2, ↓gR_3, ↓gR_4, ↓gR_5, ↓gR_6, ↓gR_7, ↓gR_8, ↓gR_9, ↓gR_10, ↓sL_0, ↓sL_1, ↓sL_2, ↓sL_3, ↓sL_4, ↓sL_5, ↓sL_6, ↓sL_7, ↓sL_8, ↓sL_9, ↓sL_10, ↓rrf_si, ↓rrf_sg, ↓shO_si, ↓shO_sg, ↓shO_sr, ↓shA_si, ↓shA_sg, ↓shA_sr, ↓pAs_0, ↓pAs_i, ↓pAs_r, stk_n, stk_i, stk_l, stk_r, List.nil_append, List.cons_append, true_and, and_true, true_or, or_true, Nat.zero_add, dp_s, Nat.reduceAdd, le8_0, le8_1, le8_2, le8_3, le8_4, le8_5, le8_6, le8_7, le8_8, Classical.not_not, aT40, aT41, aT42, aT44, aT54, aT58, aT59, rT54, rT58, rT59, reduceIte, Nat.reduceEqDiff, qn_42, qn_44, true_implies, not_true_eq_false, not_false_eq_true, false_implies, le_T, T_20, T_4, T_8, T_12, T_16, nT (show i < 2147483648 by omega)]
        refine ⟨fun c => by omega, fun _ => ⟨fun c4 => ⟨fun c8 => ⟨fun c12 => ⟨fun c16 => step x5 ?_, fun c16 => step x4 ?_⟩, fun c12 => step x3 ?_⟩, fun c8 => step x2 ?_⟩, fun c4 => step x1 ?_⟩⟩
        · have : i = 16 ∨ i = 17 ∨ i = 18 ∨ i = 19 := by omega
          rcases this with h | h | h | h <;> subst h <;> rfl
        · have : i = 12 ∨ i = 13 ∨ i = 14 ∨ i = 15 := by omega
          rcases this with h | h | h | h <;> subst h <;> rfl
        · have : i = 8 ∨ i = 9 ∨ i = 10 ∨ i = 11 := by omega
          rcases this with h | h | h | h <;> subst h <;> rfl
        · have : i = 4 ∨ i = 5 ∨ i = 6 ∨ i = 7 := by omega
          rcases this with h | h | h | h <;> subst h <;> rfl
        · have : i = 0 ∨ i = 1 ∨ i = 2 ∨ i = 3 := by omega
          rcases this with h | h | h | h <;> subst h <;> rfl
    exact lop 20 0 M1 _ (by omega) Rf.rf_ f2 (by rw [List.take_zero, List.append_nil]; exact h1.2.2.1.1)
