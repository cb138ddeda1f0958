/-! the reference: flush -/
theorem Kp.rf {r : Nat} {M0 M M' : Mm} {P : Nat → Prop} {Fs : List Nat} (h : Kp r M0 M) (o : Rf r P Fs M M') (hp : ¬ P (r + 6)) : Kp r M0 M' := by
  have z : ∀ q, M'.it (r + 6) q = M.it (r + 6) q := fun q => o.at_ (by omega) hp q
  unfold Kp
  simp only [z]
  exact h
theorem tbWs_mem {mg : Bool} {e : Nat} {s : Ms} {w : Wm} (h : w ∈ tbWs mg e s) : w ∈ s.ws ∨ (w.r = none ∧ s.md ≤ w.n) := by
  rcases List.mem_append.mp h with h | h
  · exact Or.inl h
  · obtain ⟨i, -, hn, -, hr, -⟩ := nwM_mem h
    exact Or.inr ⟨hr, by omega⟩
theorem tbWs_nb {mg : Bool} {e : Nat} {s : Ms} (o : On_ s) (he : e < 8) (hn : s.pt e + tbB mg s ≤ 16) : NbI (s.md + tbB mg s) (tbWs mg e s) := by
  refine nwG_nb (D := fun _ n => emD s.ws (s.em e) n || tieD _ _ _ n) o.1.1 (by omega) (fun j n h => ?_)
  rw [Bool.or_eq_true] at h
  rcases h with h | h
  · obtain ⟨_, v, hv, hn⟩ := emD_iff.mp h
    have := (o.1.1.2 v hv).1
    omega
  · obtain ⟨v, hv, hn, _⟩ := tieD_iff.mp h
    have := (o.1.1.2 v hv).1
    omega
/-- after the table: the record -/
theorem f144 {d c m t : Nat} {M : Mm} {k : mQ} {r e : Nat} {s s2 : Ms} {mg : Bool} (h : RP M r s2) (hs2 : s2.ws = tbWs mg e s ∧ s2.md = s.md + tbB mg s ∧ s2.la = s.la ∧ s2.lw = s.lw ∧ s2.em = s.em) (o : On_ s) (b : BdM c m t s) (hc : c < 512) (hm : m ≤ 100) (he : e < 8) (hn : s.pt e + tbB mg s ≤ 16) (hw : s.ws.length + tbB mg s < 159) (f38 : M.it r 38 = nI s.ws.length) (f39 : M.it r 39 = nI (s.ws.length + tbB mg s)) (hk : ∀ M', RP M' r (mkR (tbB mg s) none s2) → Rf r (PW r) [10, 14, 15] M M' → k (some (.inl (nI s2.ws.length))) M') : XC (d + 2) 144 [.inr (some r)] M k := by
  obtain ⟨e1, e2, e3, e4, e5⟩ := hs2
  have hl : s2.ws.length = s.ws.length + tbB mg s := by
    rw [e1]
    exact tbWs_len mg e s
  have hmd := b.1.1
  have hla := b.2.1.1.1
  have htb := tbB_le mg s
  refine e144 (f := s.ws.length) (own := tbB mg s) h (by rw [e1, e2]; exact tbWs_nb o he hn) ?_ (fun w q hw2 hq => ?_) (fun e n hen => ?_) (by omega) (by rw [e3]; omega) (by rw [e2]; omega) f38 f39 (by omega) hk
  · rw [e1, e3, e4]
    refine LwR.app (md := s.md) o.lwr o.2.2.2.2.1.1 (fun w hw2 => ?_)
    obtain ⟨i, -, hn, -, hr, -⟩ := nwM_mem hw2
    exact ⟨hr, by omega⟩
  · rw [e1] at hw2
    rcases tbWs_mem hw2 with hw2 | ⟨hr, _⟩
    · have := (b.2.1.2.2.2 w q hw2 hq).1
      omega
    · rw [hr] at hq
      cases hq
  · rw [e5] at hen
    have := (o.2.2.2.2.1.2 e n hen).1
    rw [e2]
    omega
theorem d139 {d c : Nat} {M : Mm} {k : mQ} {r : Nat} {s : Ms} (h : RP M r s) (hi : IvS c s) (hc : c < 512) (hk : ∀ M', RP M' r (mFlush s).2 → Rr r M M' → k (some (.inl (mFlush s).1)) M') : XC (d + 6) 139 [.inr (some r)] M k := by
  obtain ⟨h1, o1⟩ := h.th
  have rr1 : Rr r M (M.si r 0 0) := o1.rr (fun _ q => q.elim)
  generalize hM1 : M.si r 0 0 = M1 at h1 o1 rr1
  have hs := h.1
  have hs1 := h1.1
  have f5 : M1.it r 5 = bI s.off := h1.2.1.1.2.1
  refine xc ?_
  show X (d + 5) 139 0 [some (.inr (some r)), none, none, none] [] M k
  cases ho : s.off with
  | true =>
    rw [ho, bI_t] at f5
    have e : mFlush s = (-1, s) := if_pos ho
    rw [e] at hk
    refine vc_X 20 _ _ _ _ _ _ _ ?_
    simp only [↓v139_0, ↓v139_1, ↓v139_2, ↓v139_5, ↓v139_6, ↓v139_9, ↓v139_12, ↓v139_13, ↓v139_14, ↓v139_15, ↓v139_18, ↓v139_21, ↓v139_22, ↓v139_23, ↓v139_24, ↓v139_27, ↓v139_28, ↓v139_31, ↓v139_32, ↓v139_35, ↓v139_36, ↓v139_39, ↓v139_40, ↓v139_41, ↓v139_42, ↓v139_43, ↓v139_46, ↓v139_47, ↓v139_48, ↓v139_49, ↓v139_52, ↓v139_53, ↓v139_55, ↓v139_58, ↓v139_59, ↓v139_60, ↓v139_63, ↓v139_64, ↓v139_65, ↓v139_67, ↓v139_70, ↓v139_71, ↓v139_73, ↓v139_76, ↓v139_77, ↓v139_78, ↓v139_79, ↓v139_80, ↓v139_83, ↓v139_84, ↓v139_87, ↓v139_88, ↓v139_89, ↓qI_c, ↓qL_c, ↓qR_c, ↓pA_o, ↓qC_i, ↓qC_r, ↓oA_s, ↓gI_0, ↓gI_1, ↓gI_2, ↓gI_3, ↓gI_4, ↓gI_5, ↓gI_6, ↓gI_7, ↓gI_8, ↓gI_9, ↓gI_10, ↓gR_0, ↓gR_1, ↓gR_2, ↓gR_3, ↓gR_4, ↓gR_5, ↓gR_6, ↓gR_7, ↓gR_8, ↓gR_9, ↓gR_10, ↓sL_0, ↓sL_1, ↓sL_2, ↓sL_3, ↓sL_4, ↓sL_5, ↓sL_6, ↓sL_7, ↓sL_8, ↓sL_9, ↓sL_10, ↓rrf_si, ↓rrf_sg, ↓shO_si, ↓shO_sg, ↓shO_sr, ↓shA_si, ↓shA_sg, ↓shA_sr, ↓pAs_0, ↓pAs_i, ↓pAs_r, stk_n, stk_i, stk_l, stk_r, List.nil_append, List.cons_append, true_and, and_true, true_or, or_true, Nat.zero_add, dp_s, Nat.reduceAdd, le8_0, le8_1, le8_2, le8_3, le8_4, le8_5, le8_6, le8_7, le8_8, Classical.not_not, aT40, aT41, aT42, aT44, aT54, aT58, aT59, rT54, rT58, rT59, reduceIte, Nat.reduceEqDiff, qn_42, qn_44, true_implies, not_true_eq_false, not_false_eq_true, false_implies, hM1, ↓shO_of hs.1.1, f5, i10]
    exact hk M1 h1 rr1
  | false =>
    rw [ho, bI_f] at f5
    have o := hi.1 ho
    have b := hi.2.2.mid
    have hwl : s.ws.length ≤ 120 := hi.2.2.1.1
    have htb := tbB_le (decide (3 ≤ s.tb.length)) s
    refine vc_X 20 _ _ _ _ _ _ _ ?_
    simp only [↓v139_0, ↓v139_1, ↓v139_2, ↓v139_5, ↓v139_6, ↓v139_9, ↓v139_12, ↓v139_13, ↓v139_14, ↓v139_15, ↓v139_18, ↓v139_21, ↓v139_22, ↓v139_23, ↓v139_24, ↓v139_27, ↓v139_28, ↓v139_31, ↓v139_32, ↓v139_35, ↓v139_36, ↓v139_39, ↓v139_40, ↓v139_41, ↓v139_42, ↓v139_43, ↓v139_46, ↓v139_47, ↓v139_48, ↓v139_49, ↓v139_52, ↓v139_53, ↓v139_55, ↓v139_58, ↓v139_59, ↓v139_60, ↓v139_63, ↓v139_64, ↓v139_65, ↓v139_67, ↓v139_70, ↓v139_71, ↓v139_73, ↓v139_76, ↓v139_77, ↓v139_78, ↓v139_79, ↓v139_80, ↓v139_83, ↓v139_84, ↓v139_87, ↓v139_88, ↓v139_89, ↓qI_c, ↓qL_c, ↓qR_c, ↓pA_o, ↓qC_i, ↓qC_r, ↓oA_s, ↓gI_0, ↓gI_1, ↓gI_2, ↓gI_3, ↓gI_4, ↓gI_5, ↓gI_6, ↓gI_7, ↓gI_8, ↓gI_9, ↓gI_10, ↓gR_0, ↓gR_1, ↓gR_2, ↓gR_3, ↓gR_4, ↓gR_5, ↓gR_6, ↓gR_7, ↓gR_8, ↓gR_9, ↓gR_10, ↓sL_0, ↓sL_1, ↓sL_2, ↓sL_3, ↓sL_4, ↓sL_5, ↓sL_6, ↓sL_7, ↓sL_8, ↓sL_9, ↓sL_10, ↓rrf_si, ↓rrf_sg, ↓shO_si, ↓shO_sg, ↓shO_sr, ↓shA_si, ↓shA_sg, ↓shA_sr, ↓pAs_0, ↓pAs_i, ↓pAs_r, stk_n, stk_i, stk_l, stk_r, List.nil_append, List.cons_append, true_and, and_true, true_or, or_true, Nat.zero_add, dp_s, Nat.reduceAdd, le8_0, le8_1, le8_2, le8_3, le8_4, le8_5, le8_6, le8_7, le8_8, Classical.not_not, aT40, aT41, aT42, aT44, aT54, aT58, aT59, rT54, rT58, rT59, reduceIte, Nat.reduceEqDiff, qn_42, qn_44, true_implies, not_true_eq_false, not_false_eq_true, false_implies, hM1, ↓shO_of hs.1.1, f5, i00]
    refine e140 hs1 h1.2.2.2.1.2.1 h1.2.2.2.2.2.1 ⟨_, rfl, ?_⟩
    have hcn : chN s ≤ 48 := cnt_le _ 48
    by_cases c0 : chN s = 0
    · have e : mFlush s = (0, s) := by
        unfold mFlush
        rw [if_neg (by rw [ho]; simp), if_pos c0]
      rw [e] at hk
      have e0 : nI (cnt (fun k => (s.ch k).isSome) 48) = 0 := by
        show nI (chN s) = 0
        rw [c0]; rfl
      refine vc_X 20 _ _ _ _ _ _ _ ?_
      simp only [↓v139_0, ↓v139_1, ↓v139_2, ↓v139_5, ↓v139_6, ↓v139_9, ↓v139_12, ↓v139_13, ↓v139_14, ↓v139_15, ↓v139_18, ↓v139_21, ↓v139_22, ↓v139_23, ↓v139_24, ↓v139_27, ↓v139_28, ↓v139_31, ↓v139_32, ↓v139_35, ↓v139_36, ↓v139_39, ↓v139_40, ↓v139_41, ↓v139_42, ↓v139_43, ↓v139_46, ↓v139_47, ↓v139_48, ↓v139_49, ↓v139_52, ↓v139_53, ↓v139_55, ↓v139_58, ↓v139_59, ↓v139_60, ↓v139_63, ↓v139_64, ↓v139_65, ↓v139_67, ↓v139_70, ↓v139_71, ↓v139_73, ↓v139_76, ↓v139_77, ↓v139_78, ↓v139_79, ↓v139_80, ↓v139_83, ↓v139_84, ↓v139_87, ↓v139_88, ↓v139_89, ↓qI_c, ↓qL_c, ↓qR_c, ↓pA_o, ↓qC_i, ↓qC_r, ↓oA_s, ↓gI_0, ↓gI_1, ↓gI_2, ↓gI_3, ↓gI_4, ↓gI_5, ↓gI_6, ↓gI_7, ↓gI_8, ↓gI_9, ↓gI_10, ↓gR_0, ↓gR_1, ↓gR_2, ↓gR_3, ↓gR_4, ↓gR_5, ↓gR_6, ↓gR_7, ↓gR_8, ↓gR_9, ↓gR_10, ↓sL_0, ↓sL_1, ↓sL_2, ↓sL_3, ↓sL_4, ↓sL_5, ↓sL_6, ↓sL_7, ↓sL_8, ↓sL_9, ↓sL_10, ↓rrf_si, ↓rrf_sg, ↓shO_si, ↓shO_sg, ↓shO_sr, ↓shA_si, ↓shA_sg, ↓shA_sr, ↓pAs_0, ↓pAs_i, ↓pAs_r, stk_n, stk_i, stk_l, stk_r, List.nil_append, List.cons_append, true_and, and_true, true_or, or_true, Nat.zero_add, dp_s, Nat.reduceAdd, le8_0, le8_1, le8_2, le8_3, le8_4, le8_5, le8_6, le8_7, le8_8, Classical.not_not, aT40, aT41, aT42, aT44, aT54, aT58, aT59, rT54, rT58, rT59, reduceIte, Nat.reduceEqDiff, qn_42, qn_44, true_implies, not_true_eq_false, not_false_eq_true, false_implies, e0, i00]
      exact hk M1 h1 rr1
    · have e0 : (nI (cnt (fun k => (s.ch k).isSome) 48) = 0) = False := eq_false (fun q => by
        have q : nI (chN s) = nI 0 := q
        rw [nI_eq (by omega) (by omega)] at q
        exact c0 q)
      have eF : mFlush s = (match tkE s.pt s.op (tbB (decide (3 ≤ s.tb.length)) s) 1 with
        | none => (-2, s)
        | some e => if 120 < s.ws.length + tbB (decide (3 ≤ s.tb.length)) s + 1 then (-3, s) else (1, mkR (tbB (decide (3 ≤ s.tb.length)) s) none (sEm none (mkTb (decide (3 ≤ s.tb.length)) e s)))) := by
        unfold mFlush
        rw [if_neg (by rw [ho]; simp), if_neg c0]
        rfl
      rw [eF] at hk
      clear eF
      refine vc_X 20 _ _ _ _ _ _ _ ?_
      simp only [↓v139_0, ↓v139_1, ↓v139_2, ↓v139_5, ↓v139_6, ↓v139_9, ↓v139_12, ↓v139_13, ↓v139_14, ↓v139_15, ↓v139_18, ↓v139_21, ↓v139_22, ↓v139_23, ↓v139_24, ↓v139_27, ↓v139_28, ↓v139_31, ↓v139_32, ↓v139_35, ↓v139_36, ↓v139_39, ↓v139_40, ↓v139_41, ↓v139_42, ↓v139_43, ↓v139_46, ↓v139_47, ↓v139_48, ↓v139_49, ↓v139_52, ↓v139_53, ↓v139_55, ↓v139_58, ↓v139_59, ↓v139_60, ↓v139_63, ↓v139_64, ↓v139_65, ↓v139_67, ↓v139_70, ↓v139_71, ↓v139_73, ↓v139_76, ↓v139_77, ↓v139_78, ↓v139_79, ↓v139_80, ↓v139_83, ↓v139_84, ↓v139_87, ↓v139_88, ↓v139_89, ↓qI_c, ↓qL_c, ↓qR_c, ↓pA_o, ↓qC_i, ↓qC_r, ↓oA_s, ↓gI_0, ↓gI_1, ↓gI_2, ↓gI_3, ↓gI_4, ↓gI_5, ↓gI_6, ↓gI_7, ↓gI_8, ↓gI_9, ↓gI_10, ↓gR_0, ↓gR_1, ↓gR_2, ↓gR_3, ↓gR_4, ↓gR_5, ↓gR_6, ↓gR_7, ↓gR_8, ↓gR_9, ↓gR_10, ↓sL_0, ↓sL_1, ↓sL_2, ↓sL_3, ↓sL_4, ↓sL_5, ↓sL_6, ↓sL_7, ↓sL_8, ↓sL_9, ↓sL_10, ↓rrf_si, ↓rrf_sg, ↓shO_si, ↓shO_sg, ↓shO_sr, ↓shA_si, ↓shA_sg, ↓shA_sr, ↓pAs_0, ↓pAs_i, ↓pAs_r, stk_n, stk_i, stk_l, stk_r, List.nil_append, List.cons_append, true_and, and_true, true_or, or_true, Nat.zero_add, dp_s, Nat.reduceAdd, le8_0, le8_1, le8_2, le8_3, le8_4, le8_5, le8_6, le8_7, le8_8, Classical.not_not, aT40, aT41, aT42, aT44, aT54, aT58, aT59, rT54, rT58, rT59, reduceIte, Nat.reduceEqDiff, qn_42, qn_44, true_implies, not_true_eq_false, not_false_eq_true, false_implies, e0, ↓shO_of hs1.1.1]
      refine e120 hs1 (fun M2 kp2 o2 => ⟨rfl, ?_⟩)
      have h2 := h1.rf0 o2 (fun y q => Or.inl q) (by simp)
      have h3t := h.2.2.2.2.2.2.1
      have f11 : M2.it r 11 = nI s.tb.length := h2.2.1.1.2.2.2.2.1
      have rr2 : Rr r M M2 := rr1.trans (o2.rr (fun y hy => by omega)) (fun _ q => q)
      generalize hmg : decide (3 ≤ s.tb.length) = mg at hk htb
      have join : X (d + 5) 139 40 [some (.inr (some r)), none, none, none] [.inl (bI mg)] M2 k := by
        refine vc_X 20 _ _ _ _ _ _ _ ?_
        simp only [↓v139_0, ↓v139_1, ↓v139_2, ↓v139_5, ↓v139_6, ↓v139_9, ↓v139_12, ↓v139_13, ↓v139_14, ↓v139_15, ↓v139_18, ↓v139_21, ↓v139_22, ↓v139_23, ↓v139_24, ↓v139_27, ↓v139_28, ↓v139_31, ↓v139_32, ↓v139_35, ↓v139_36, ↓v139_39, ↓v139_40, ↓v139_41, ↓v139_42, ↓v139_43, ↓v139_46, ↓v139_47, ↓v139_48, ↓v139_49, ↓v139_52, ↓v139_53, ↓v139_55, ↓v139_58, ↓v139_59, ↓v139_60, ↓v139_63, ↓v139_64, ↓v139_65, ↓v139_67, ↓v139_70, ↓v139_71, ↓v139_73, ↓v139_76, ↓v139_77, ↓v139_78, ↓v139_79, ↓v139_80, ↓v139_83, ↓v139_84, ↓v139_87, ↓v139_88, ↓v139_89, ↓qI_c, ↓qL_c, ↓qR_c, ↓pA_o, ↓qC_i, ↓qC_r, ↓oA_s, ↓gI_0, ↓gI_1, ↓gI_2, ↓gI_3, ↓gI_4, ↓gI_5, ↓gI_6, ↓gI_7, ↓gI_8, ↓gI_9, ↓gI_10, ↓gR_0, ↓gR_1, ↓gR_2, ↓gR_3, ↓gR_4, ↓gR_5, ↓gR_6, ↓gR_7, ↓gR_8, ↓gR_9, ↓gR_10, ↓sL_0, ↓sL_1, ↓sL_2, ↓sL_3, ↓sL_4, ↓sL_5, ↓sL_6, ↓sL_7, ↓sL_8, ↓sL_9, ↓sL_10, ↓rrf_si, ↓rrf_sg, ↓shO_si, ↓shO_sg, ↓shO_sr, ↓shA_si, ↓shA_sg, ↓shA_sr, ↓pAs_0, ↓pAs_i, ↓pAs_r, stk_n, stk_i, stk_l, stk_r, List.nil_append, List.cons_append, true_and, and_true, true_or, or_true, Nat.zero_add, dp_s, Nat.reduceAdd, le8_0, le8_1, le8_2, le8_3, le8_4, le8_5, le8_6, le8_7, le8_8, Classical.not_not, aT40, aT41, aT42, aT44, aT54, aT58, aT59, rT54, rT58, rT59, reduceIte, Nat.reduceEqDiff, qn_42, qn_44, true_implies, not_true_eq_false, not_false_eq_true, false_implies, ↓shO_of h2.1.1.1]
        refine e141 h2 o b hc (by omega) (by omega) (by omega) (by omega) (fun M3 htk h3 o3 => ⟨_, rfl, ?_⟩) (fun e M3 htk h3 f38 f39 h23 o3 => ⟨_, rfl, ?_⟩)
        · rw [htk] at hk
          refine vc_X 20 _ _ _ _ _ _ _ ?_
          simp only [↓v139_0, ↓v139_1, ↓v139_2, ↓v139_5, ↓v139_6, ↓v139_9, ↓v139_12, ↓v139_13, ↓v139_14, ↓v139_15, ↓v139_18, ↓v139_21, ↓v139_22, ↓v139_23, ↓v139_24, ↓v139_27, ↓v139_28, ↓v139_31, ↓v139_32, ↓v139_35, ↓v139_36, ↓v139_39, ↓v139_40, ↓v139_41, ↓v139_42, ↓v139_43, ↓v139_46, ↓v139_47, ↓v139_48, ↓v139_49, ↓v139_52, ↓v139_53, ↓v139_55, ↓v139_58, ↓v139_59, ↓v139_60, ↓v139_63, ↓v139_64, ↓v139_65, ↓v139_67, ↓v139_70, ↓v139_71, ↓v139_73, ↓v139_76, ↓v139_77, ↓v139_78, ↓v139_79, ↓v139_80, ↓v139_83, ↓v139_84, ↓v139_87, ↓v139_88, ↓v139_89, ↓qI_c, ↓qL_c, ↓qR_c, ↓pA_o, ↓qC_i, ↓qC_r, ↓oA_s, ↓gI_0, ↓gI_1, ↓gI_2, ↓gI_3, ↓gI_4, ↓gI_5, ↓gI_6, ↓gI_7, ↓gI_8, ↓gI_9, ↓gI_10, ↓gR_0, ↓gR_1, ↓gR_2, ↓gR_3, ↓gR_4, ↓gR_5, ↓gR_6, ↓gR_7, ↓gR_8, ↓gR_9, ↓gR_10, ↓sL_0, ↓sL_1, ↓sL_2, ↓sL_3, ↓sL_4, ↓sL_5, ↓sL_6, ↓sL_7, ↓sL_8, ↓sL_9, ↓sL_10, ↓rrf_si, ↓rrf_sg, ↓shO_si, ↓shO_sg, ↓shO_sr, ↓shA_si, ↓shA_sg, ↓shA_sr, ↓pAs_0, ↓pAs_i, ↓pAs_r, stk_n, stk_i, stk_l, stk_r, List.nil_append, List.cons_append, true_and, and_true, true_or, or_true, Nat.zero_add, dp_s, Nat.reduceAdd, le8_0, le8_1, le8_2, le8_3, le8_4, le8_5, le8_6, le8_7, le8_8, Classical.not_not, aT40, aT41, aT42, aT44, aT54, aT58, aT59, rT54, rT58, rT59, reduceIte, Nat.reduceEqDiff, qn_42, qn_44, true_implies, not_true_eq_false, not_false_eq_true, false_implies, m11, ↓shO_of h3.1.1.1]
          refine e127 h3.1 (kp2.rf o3 (by unfold PF; omega)) (fun M4 A B C o4 => ⟨_, rfl, ?_⟩)
          refine vc_X 20 _ _ _ _ _ _ _ ?_
          simp only [↓v139_0, ↓v139_1, ↓v139_2, ↓v139_5, ↓v139_6, ↓v139_9, ↓v139_12, ↓v139_13, ↓v139_14, ↓v139_15, ↓v139_18, ↓v139_21, ↓v139_22, ↓v139_23, ↓v139_24, ↓v139_27, ↓v139_28, ↓v139_31, ↓v139_32, ↓v139_35, ↓v139_36, ↓v139_39, ↓v139_40, ↓v139_41, ↓v139_42, ↓v139_43, ↓v139_46, ↓v139_47, ↓v139_48, ↓v139_49, ↓v139_52, ↓v139_53, ↓v139_55, ↓v139_58, ↓v139_59, ↓v139_60, ↓v139_63, ↓v139_64, ↓v139_65, ↓v139_67, ↓v139_70, ↓v139_71, ↓v139_73, ↓v139_76, ↓v139_77, ↓v139_78, ↓v139_79, ↓v139_80, ↓v139_83, ↓v139_84, ↓v139_87, ↓v139_88, ↓v139_89, ↓qI_c, ↓qL_c, ↓qR_c, ↓pA_o, ↓qC_i, ↓qC_r, ↓oA_s, ↓gI_0, ↓gI_1, ↓gI_2, ↓gI_3, ↓gI_4, ↓gI_5, ↓gI_6, ↓gI_7, ↓gI_8, ↓gI_9, ↓gI_10, ↓gR_0, ↓gR_1, ↓gR_2, ↓gR_3, ↓gR_4, ↓gR_5, ↓gR_6, ↓gR_7, ↓gR_8, ↓gR_9, ↓gR_10, ↓sL_0, ↓sL_1, ↓sL_2, ↓sL_3, ↓sL_4, ↓sL_5, ↓sL_6, ↓sL_7, ↓sL_8, ↓sL_9, ↓sL_10, ↓rrf_si, ↓rrf_sg, ↓shO_si, ↓shO_sg, ↓shO_sr, ↓shA_si, ↓shA_sg, ↓shA_sr, ↓pAs_0, ↓pAs_i, ↓pAs_r, stk_n, stk_i, stk_l, stk_r, List.nil_append, List.cons_append, true_and, and_true, true_or, or_true, Nat.zero_add, dp_s, Nat.reduceAdd, le8_0, le8_1, le8_2, le8_3, le8_4, le8_5, le8_6, le8_7, le8_8, Classical.not_not, aT40, aT41, aT42, aT44, aT54, aT58, aT59, rT54, rT58, rT59, reduceIte, Nat.reduceEqDiff, qn_42, qn_44, true_implies, not_true_eq_false, not_false_eq_true, false_implies]
          have o13 : Rf r (fun y => y = r + 6 ∨ PF r y) [38, 39] M1 M3 := (o2.mono (fun _ q => Or.inl q) (fun _ q => by cases q)).trans o3 (fun _ q => Or.inr q) (fun _ q => q)
          exact hk M4 (h1.undo o13 (fun y q => by unfold PF at q; omega) (by decide) h3.2.2.2.1.2.2.2 A B C o4) ((rr2.trans (o3.rr (fun y hy => by unfold PF at hy; omega)) (fun _ q => q)).trans (o4.rr (fun y hy => by unfold PU at hy; omega)) (fun _ q => q))
        · rw [htk] at hk
          have hk : ∀ M', RP M' r (if 120 < s.ws.length + tbB mg s + 1 then (-3, s) else (1, mkR (tbB mg s) none (sEm none (mkTb mg e s))) : Int32 × Ms).2 → Rr r M M' → k (some (.inl (if 120 < s.ws.length + tbB mg s + 1 then (-3, s) else (1, mkR (tbB mg s) none (sEm none (mkTb mg e s))) : Int32 × Ms).1)) M' := hk
          obtain ⟨e8, en⟩ := tkE_ok hi.2.2.2.2.1.2 htk
          have f14 : M3.it r 14 = nI (s.ws.length + tbB mg s) := by
            rw [h3.2.1.2.1]
            show nI (mkTb mg e s).ws.length = _
            rw [tbWs_len]
          have rr3 : Rr r M M3 := rr2.trans (o3.rr (fun y hy => by unfold PMk PW at hy; omega)) (fun _ q => q)
          refine vc_X 20 _ _ _ _ _ _ _ ?_
          simp only [↓v139_0, ↓v139_1, ↓v139_2, ↓v139_5, ↓v139_6, ↓v139_9, ↓v139_12, ↓v139_13, ↓v139_14, ↓v139_15, ↓v139_18, ↓v139_21, ↓v139_22, ↓v139_23, ↓v139_24, ↓v139_27, ↓v139_28, ↓v139_31, ↓v139_32, ↓v139_35, ↓v139_36, ↓v139_39, ↓v139_40, ↓v139_41, ↓v139_42, ↓v139_43, ↓v139_46, ↓v139_47, ↓v139_48, ↓v139_49, ↓v139_52, ↓v139_53, ↓v139_55, ↓v139_58, ↓v139_59, ↓v139_60, ↓v139_63, ↓v139_64, ↓v139_65, ↓v139_67, ↓v139_70, ↓v139_71, ↓v139_73, ↓v139_76, ↓v139_77, ↓v139_78, ↓v139_79, ↓v139_80, ↓v139_83, ↓v139_84, ↓v139_87, ↓v139_88, ↓v139_89, ↓qI_c, ↓qL_c, ↓qR_c, ↓pA_o, ↓qC_i, ↓qC_r, ↓oA_s, ↓gI_0, ↓gI_1, ↓gI_2, ↓gI_3, ↓gI_4, ↓gI_5, ↓gI_6, ↓gI_7, ↓gI_8, ↓gI_9, ↓gI_10, ↓gR_0, ↓gR_1, ↓gR_2, ↓gR_3, ↓gR_4, ↓gR_5, ↓gR_6, ↓gR_7, ↓gR_8, ↓gR_9, ↓gR_10, ↓sL_0, ↓sL_1, ↓sL_2, ↓sL_3, ↓sL_4, ↓sL_5, ↓sL_6, ↓sL_7, ↓sL_8, ↓sL_9, ↓sL_10, ↓rrf_si, ↓rrf_sg, ↓shO_si, ↓shO_sg, ↓shO_sr, ↓shA_si, ↓shA_sg, ↓shA_sr, ↓pAs_0, ↓pAs_i, ↓pAs_r, stk_n, stk_i, stk_l, stk_r, List.nil_append, List.cons_append, true_and, and_true, true_or, or_true, Nat.zero_add, dp_s, Nat.reduceAdd, le8_0, le8_1, le8_2, le8_3, le8_4, le8_5, le8_6, le8_7, le8_8, Classical.not_not, aT40, aT41, aT42, aT44, aT54, aT58, aT59, rT54, rT58, rT59, reduceIte, Nat.reduceEqDiff, qn_42, qn_44, true_implies, not_true_eq_false, not_false_eq_true, false_implies, nI_nm (show 16 * e + s.pt e < 2147483648 by omega) (show ((-1 : Int32)).toInt < 0 by decide), ↓shO_of h3.1.1.1, f14, nI_1, le_T, T_120, nT (show s.ws.length + tbB mg s + 1 < 2147483648 by omega)]
          refine ⟨fun c1 => ?_, fun c1 => ?_⟩
          · rw [if_neg (by omega)] at hk
            refine e143 h3 h23 (frS_spOK o mg) (by omega) (fun hm => ?_) (fun M4 h4 o4 => ⟨rfl, ?_⟩)
            · show s.tb.length < 3
              rw [hm] at hmg
              simp at hmg
              omega
            · refine vc_X 20 _ _ _ _ _ _ _ ?_
              simp only [↓v139_0, ↓v139_1, ↓v139_2, ↓v139_5, ↓v139_6, ↓v139_9, ↓v139_12, ↓v139_13, ↓v139_14, ↓v139_15, ↓v139_18, ↓v139_21, ↓v139_22, ↓v139_23, ↓v139_24, ↓v139_27, ↓v139_28, ↓v139_31, ↓v139_32, ↓v139_35, ↓v139_36, ↓v139_39, ↓v139_40, ↓v139_41, ↓v139_42, ↓v139_43, ↓v139_46, ↓v139_47, ↓v139_48, ↓v139_49, ↓v139_52, ↓v139_53, ↓v139_55, ↓v139_58, ↓v139_59, ↓v139_60, ↓v139_63, ↓v139_64, ↓v139_65, ↓v139_67, ↓v139_70, ↓v139_71, ↓v139_73, ↓v139_76, ↓v139_77, ↓v139_78, ↓v139_79, ↓v139_80, ↓v139_83, ↓v139_84, ↓v139_87, ↓v139_88, ↓v139_89, ↓qI_c, ↓qL_c, ↓qR_c, ↓pA_o, ↓qC_i, ↓qC_r, ↓oA_s, ↓gI_0, ↓gI_1, ↓gI_2, ↓gI_3, ↓gI_4, ↓gI_5, ↓gI_6, ↓gI_7, ↓gI_8, ↓gI_9, ↓gI_10, ↓gR_0, ↓gR_1, ↓gR_2, ↓gR_3, ↓gR_4, ↓gR_5, ↓gR_6, ↓gR_7, ↓gR_8, ↓gR_9, ↓gR_10, ↓sL_0, ↓sL_1, ↓sL_2, ↓sL_3, ↓sL_4, ↓sL_5, ↓sL_6, ↓sL_7, ↓sL_8, ↓sL_9, ↓sL_10, ↓rrf_si, ↓rrf_sg, ↓shO_si, ↓shO_sg, ↓shO_sr, ↓shA_si, ↓shA_sg, ↓shA_sr, ↓pAs_0, ↓pAs_i, ↓pAs_r, stk_n, stk_i, stk_l, stk_r, List.nil_append, List.cons_append, true_and, and_true, true_or, or_true, Nat.zero_add, dp_s, Nat.reduceAdd, le8_0, le8_1, le8_2, le8_3, le8_4, le8_5, le8_6, le8_7, le8_8, Classical.not_not, aT40, aT41, aT42, aT44, aT54, aT58, aT59, rT54, rT58, rT59, reduceIte, Nat.reduceEqDiff, qn_42, qn_44, true_implies, not_true_eq_false, not_false_eq_true, false_implies, ↓shO_of h4.1.1.1]
              refine f144 (s := s) (mg := mg) (e := e) h4 ⟨rfl, rfl, rfl, rfl, rfl⟩ o b hc (by omega) e8 en (by omega) (by rw [o4.2 38 (by simp)]; exact f38) (by rw [o4.2 39 (by simp)]; exact f39) (fun M5 h5 o5 => ⟨_, rfl, ?_⟩)
              refine vc_X 20 _ _ _ _ _ _ _ ?_
              simp only [↓v139_0, ↓v139_1, ↓v139_2, ↓v139_5, ↓v139_6, ↓v139_9, ↓v139_12, ↓v139_13, ↓v139_14, ↓v139_15, ↓v139_18, ↓v139_21, ↓v139_22, ↓v139_23, ↓v139_24, ↓v139_27, ↓v139_28, ↓v139_31, ↓v139_32, ↓v139_35, ↓v139_36, ↓v139_39, ↓v139_40, ↓v139_41, ↓v139_42, ↓v139_43, ↓v139_46, ↓v139_47, ↓v139_48, ↓v139_49, ↓v139_52, ↓v139_53, ↓v139_55, ↓v139_58, ↓v139_59, ↓v139_60, ↓v139_63, ↓v139_64, ↓v139_65, ↓v139_67, ↓v139_70, ↓v139_71, ↓v139_73, ↓v139_76, ↓v139_77, ↓v139_78, ↓v139_79, ↓v139_80, ↓v139_83, ↓v139_84, ↓v139_87, ↓v139_88, ↓v139_89, ↓qI_c, ↓qL_c, ↓qR_c, ↓pA_o, ↓qC_i, ↓qC_r, ↓oA_s, ↓gI_0, ↓gI_1, ↓gI_2, ↓gI_3, ↓gI_4, ↓gI_5, ↓gI_6, ↓gI_7, ↓gI_8, ↓gI_9, ↓gI_10, ↓gR_0, ↓gR_1, ↓gR_2, ↓gR_3, ↓gR_4, ↓gR_5, ↓gR_6, ↓gR_7, ↓gR_8, ↓gR_9, ↓gR_10, ↓sL_0, ↓sL_1, ↓sL_2, ↓sL_3, ↓sL_4, ↓sL_5, ↓sL_6, ↓sL_7, ↓sL_8, ↓sL_9, ↓sL_10, ↓rrf_si, ↓rrf_sg, ↓shO_si, ↓shO_sg, ↓shO_sr, ↓shA_si, ↓shA_sg, ↓shA_sr, ↓pAs_0, ↓pAs_i, ↓pAs_r, stk_n, stk_i, stk_l, stk_r, List.nil_append, List.cons_append, true_and, and_true, true_or, or_true, Nat.zero_add, dp_s, Nat.reduceAdd, le8_0, le8_1, le8_2, le8_3, le8_4, le8_5, le8_6, le8_7, le8_8, Classical.not_not, aT40, aT41, aT42, aT44, aT54, aT58, aT59, rT54, rT58, rT59, reduceIte, Nat.reduceEqDiff, qn_42, qn_44, true_implies, not_true_eq_false, not_false_eq_true, false_implies]
              exact hk M5 h5 ((rr3.trans (o4.rr (fun y hy => by unfold PT3 at hy; omega)) (fun _ q => q)).trans (o5.rr (fun y hy => by unfold PW at hy; omega)) (fun _ q => q))
          · rw [if_pos (by omega)] at hk
            refine e127 h3.1 (kp2.rf o3 (by unfold PMk PW; omega)) (fun M4 A B C o4 => ⟨_, rfl, ?_⟩)
            refine vc_X 20 _ _ _ _ _ _ _ ?_
            simp only [↓v139_0, ↓v139_1, ↓v139_2, ↓v139_5, ↓v139_6, ↓v139_9, ↓v139_12, ↓v139_13, ↓v139_14, ↓v139_15, ↓v139_18, ↓v139_21, ↓v139_22, ↓v139_23, ↓v139_24, ↓v139_27, ↓v139_28, ↓v139_31, ↓v139_32, ↓v139_35, ↓v139_36, ↓v139_39, ↓v139_40, ↓v139_41, ↓v139_42, ↓v139_43, ↓v139_46, ↓v139_47, ↓v139_48, ↓v139_49, ↓v139_52, ↓v139_53, ↓v139_55, ↓v139_58, ↓v139_59, ↓v139_60, ↓v139_63, ↓v139_64, ↓v139_65, ↓v139_67, ↓v139_70, ↓v139_71, ↓v139_73, ↓v139_76, ↓v139_77, ↓v139_78, ↓v139_79, ↓v139_80, ↓v139_83, ↓v139_84, ↓v139_87, ↓v139_88, ↓v139_89, ↓qI_c, ↓qL_c, ↓qR_c, ↓pA_o, ↓qC_i, ↓qC_r, ↓oA_s, ↓gI_0, ↓gI_1, ↓gI_2, ↓gI_3, ↓gI_4, ↓gI_5, ↓gI_6, ↓gI_7, ↓gI_8, ↓gI_9, ↓gI_10, ↓gR_0, ↓gR_1, ↓gR_2, ↓gR_3, ↓gR_4, ↓gR_5, ↓gR_6, ↓gR_7, ↓gR_8, ↓gR_9, ↓gR_10, ↓sL_0, ↓sL_1, ↓sL_2, ↓sL_3, ↓sL_4, ↓sL_5, ↓sL_6, ↓sL_7, ↓sL_8, ↓sL_9, ↓sL_10, ↓rrf_si, ↓rrf_sg, ↓shO_si, ↓shO_sg, ↓shO_sr, ↓shA_si, ↓shA_sg, ↓shA_sr, ↓pAs_0, ↓pAs_i, ↓pAs_r, stk_n, stk_i, stk_l, stk_r, List.nil_append, List.cons_append, true_and, and_true, true_or, or_true, Nat.zero_add, dp_s, Nat.reduceAdd, le8_0, le8_1, le8_2, le8_3, le8_4, le8_5, le8_6, le8_7, le8_8, Classical.not_not, aT40, aT41, aT42, aT44, aT54, aT58, aT59, rT54, rT58, rT59, reduceIte, Nat.reduceEqDiff, qn_42, qn_44, true_implies, not_true_eq_false, not_false_eq_true, false_implies]
            have o13 : Rf r (fun y => y = r + 6 ∨ (PMk r y ∨ y = r + 23)) [9, 12, 14, 15, 38, 39] M1 M3 := (o2.mono (fun _ q => Or.inl q) (fun _ q => by cases q)).trans o3 (fun _ q => Or.inr q) (fun _ q => q)
            exact hk M4 (h1.undo o13 (fun y q => by unfold PMk PW at q; unfold PW; omega) (by decide) (h3.2.2.2.1.2.2.2.pre (ws := s.ws)) A B C o4) (rr3.trans (o4.rr (fun y hy => by unfold PU at hy; omega)) (fun _ q => q))
      have n3 : (3 : Int32) = nI 3 := rfl
      refine vc_X 20 _ _ _ _ _ _ _ ?_
      simp only [↓v139_0, ↓v139_1, ↓v139_2, ↓v139_5, ↓v139_6, ↓v139_9, ↓v139_12, ↓v139_13, ↓v139_14, ↓v139_15, ↓v139_18, ↓v139_21, ↓v139_22, ↓v139_23, ↓v139_24, ↓v139_27, ↓v139_28, ↓v139_31, ↓v139_32, ↓v139_35, ↓v139_36, ↓v139_39, ↓v139_40, ↓v139_41, ↓v139_42, ↓v139_43, ↓v139_46, ↓v139_47, ↓v139_48, ↓v139_49, ↓v139_52, ↓v139_53, ↓v139_55, ↓v139_58, ↓v139_59, ↓v139_60, ↓v139_63, ↓v139_64, ↓v139_65, ↓v139_67, ↓v139_70, ↓v139_71, ↓v139_73, ↓v139_76, ↓v139_77, ↓v139_78, ↓v139_79, ↓v139_80, ↓v139_83, ↓v139_84, ↓v139_87, ↓v139_88, ↓v139_89, ↓qI_c, ↓qL_c, ↓qR_c, ↓pA_o, ↓qC_i, ↓qC_r, ↓oA_s, ↓gI_0, ↓gI_1, ↓gI_2, ↓gI_3, ↓gI_4, ↓gI_5, ↓gI_6, ↓gI_7, ↓gI_8, ↓gI_9, ↓gI_10, ↓gR_0, ↓gR_1, ↓gR_2, ↓gR_3, ↓gR_4, ↓gR_5, ↓gR_6, ↓gR_7, ↓gR_8, ↓gR_9, ↓gR_10, ↓sL_0, ↓sL_1, ↓sL_2, ↓sL_3, ↓sL_4, ↓sL_5, ↓sL_6, ↓sL_7, ↓sL_8, ↓sL_9, ↓sL_10, ↓rrf_si, ↓rrf_sg, ↓shO_si, ↓shO_sg, ↓shO_sr, ↓shA_si, ↓shA_sg, ↓shA_sr, ↓pAs_0, ↓pAs_i, ↓pAs_r, stk_n, stk_i, stk_l, stk_r, List.nil_append, List.cons_append, true_and, and_true, true_or, or_true, Nat.zero_add, dp_s, Nat.reduceAdd, le8_0, le8_1, le8_2, le8_3, le8_4, le8_5, le8_6, le8_7, le8_8, Classical.not_not, aT40, aT41, aT42, aT44, aT54, aT58, aT59, rT54, rT58, rT59, reduceIte, Nat.reduceEqDiff, qn_42, qn_44, true_implies, not_true_eq_false, not_false_eq_true, false_implies, ↓shO_of h2.1.1.1, f11]
      refine ⟨fun c1 => ?_, fun c1 => ?_⟩
      · have em : mg = false := by
          rw [← hmg, decide_eq_false_iff_not]
          intro q
          exact c1 (by rw [show s.tb.length = 3 by omega]; rfl)
        rw [em] at join
        exact join
      · rw [n3, nI_eq (by omega) (by omega)] at c1
        have em : mg = true := by
          rw [← hmg, decide_eq_true_iff]
          omega
        rw [em] at join
        exact join
