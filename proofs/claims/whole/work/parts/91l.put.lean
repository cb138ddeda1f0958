/-! the reference: put -/
theorem RP.undo {r : Nat} {P : Nat → Prop} {Fs : List Nat} {M0 M M' : Mm} {s : Ms} (h : RP M0 r s) (o : Rf r P Fs M0 M) (hP : ∀ y, P y → (y = r + 4 ∨ y = r + 5 ∨ y = r + 6 ∨ y = r + 8) ∨ PW r y ∨ r + 19 ≤ y) (hF : ∀ j, j ∈ [2, 5, 10, 11, 13, 27, 28, 34] → j ∉ Fs) (hw : RWs M r s.ws) (A : ∀ e, e < 8 → M'.it (r + 4) e = M0.it (r + 4) e ∧ M'.it (r + 5) e = M0.it (r + 5) e) (B : ∀ q, q < 48 → M'.it (r + 8) q = M0.it (r + 8) q) (C : M'.it r 9 = M0.it r 9 ∧ M'.it r 12 = M0.it r 12 ∧ M'.it r 14 = M0.it r 14 ∧ M'.it r 15 = M0.it r 15) (o2 : Rf r (PU r) [9, 12, 14, 15] M M') : RP M' r s := by
  obtain ⟨hs, ⟨⟨f2, f5, f9, f10, f11, f12, f13⟩, f14, f15, f27, f28, f34⟩, ⟨a1, a2, a3, a4, a5⟩, ⟨b1, b2, b3, b4⟩, ⟨c1, c2, c3⟩, d⟩ := h
  have F : ∀ j, j ∈ [2, 5, 10, 11, 13, 27, 28, 34] → M'.it r j = M0.it r j := fun j hj => by
    rw [o2.2 j (fun q => by simp at hj q; omega), o.2 j (hF j hj)]
  have oo : Rf r (fun y => P y ∨ PU r y) (Fs ++ [9, 12, 14, 15]) M0 M' := (o.mono (fun _ q => Or.inl q) (fun j q => List.mem_append_left _ q)).trans o2 (fun _ q => Or.inr q) (fun j q => List.mem_append_right _ q)
  have nP : ∀ i, i ∈ [1, 2, 3, 7, 9, 16, 17, 18] → ¬ (P (r + i) ∨ PU r (r + i)) := fun i hi q => by
    simp at hi
    rcases q with q | q
    · have := hP _ q
      unfold PW at this
      omega
    · unfold PU at q
      omega
  refine ⟨hs.oi oo.1, ⟨⟨by rw [F 2 (by decide)]; exact f2, by rw [F 5 (by decide)]; exact f5, by rw [C.1]; exact f9, by rw [F 10 (by decide)]; exact f10, by rw [F 11 (by decide)]; exact f11, by rw [C.2.1]; exact f12, by rw [F 13 (by decide)]; exact f13⟩, by rw [C.2.2.1]; exact f14, by rw [C.2.2.2]; exact f15, by rw [F 27 (by decide)]; exact f27, by rw [F 28 (by decide)]; exact f28, by rw [F 34 (by decide)]; exact f34⟩, ⟨a1.rf oo (by omega) (nP 1 (by decide)), a2.rf oo (by omega) (nP 2 (by decide)), a3.rf oo (nP 3 (by decide)), fun e he => ?_, fun e he => ?_⟩, ⟨b1.rf oo (by omega) (nP 7 (by decide)), fun q hq => ?_, b3.rf oo (by omega) (nP 9 (by decide)), hw.rf o2 (fun y y1 y2 q => by unfold PU at q; omega)⟩, ⟨c1.rf oo (by omega) (nP 16 (by decide)), ⟨c2.1.rf oo (by omega) (nP 17 (by decide)), c2.2⟩, c3.rf oo (by omega) (nP 18 (by decide))⟩, d⟩
  · rw [(A e he).1]; exact a4 e he
  · rw [(A e he).2]; exact a5 e he
  · rw [B q hq]; exact b2 q hq
theorem e121n {d c m t n : Nat} {M : Mm} {k : mQ} {r kind key due : Nat} {s : Ms} {ct : List Nat} (hl : ct.length = n) (h : RP M r s) (o : On_ s) (b : BdM c m t s) (hc : c < 512) (hm : m ≤ 100) (ht : t ≤ 100) (hw : s.ws.length + (n + 23) / 16 ≤ 160) (hkd : kind < 256) (hky : key < 256) (hn : n ≤ 145) (hv : ∀ v ∈ ct, v < 256) (hct : ∀ j v, ct[j]? = some v → M.it (r + 19) (6 + j) &&& 255 = nI v) (hd1 : 1 ≤ due) (hd2 : due < 100) (hk0 : tkE s.pt s.op ((n + 23) / 16) due = none → k (some (.inl (-1))) M) (hk1 : ∀ e M', tkE s.pt s.op ((n + 23) / 16) due = some e → RP M' r (mkC kind key ct e s) → Rf r (PMk r) [9, 12, 14, 15] M M' → k (some (.inl (nI (16 * e + s.pt e)))) M') : XC (d + 2) 121 [.inr (some r), .inl (nI kind), .inl (nI key), .inl (nI n), .inl (nI due)] M k := by
  subst hl
  exact e121 h o b hc hm ht hw hkd hky hn hv hct hd1 hd2 hk0 hk1
theorem RWs.pre {M : Mm} {r : Nat} {ws x : List Wm} (h : RWs M r (ws ++ x)) : RWs M r ws := fun i w hw => h i w (by rw [List.getElem?_append_left (List.getElem?_eq_some_iff.mp hw).1]; exact hw)
theorem RP.setCh {r j p : Nat} {M : Mm} {s : Ms} (h : RP M r s) (hj : j < 48) (hp : p = 255 ∨ p < 128) : RP (M.si (r + 8) j (nI p)) r (sCh j p s) ∧ Rf r (· = r + 8) [] M (M.si (r + 8) j (nI p)) := by
  have o : Rf r (· = r + 8) [] M (M.si (r + 8) j (nI p)) := Rf.rf_.row rfl (by omega)
  refine ⟨h.uCh o (by decide) ⟨by omega, by omega, by omega, by omega, by omega, by omega, by omega, by omega, by omega, by omega, fun y y1 y2 => by omega⟩ (fun q hq => ?_) ⟨?_, h.2.2.2.2.2.2⟩, o⟩
  · rw [si_it]
    show _ = oI (if q = j then some p else s.ch q)
    by_cases cq : q = j
    · rw [if_pos ⟨rfl, cq⟩, if_pos cq]; rfl
    · rw [if_neg (fun z => cq z.2), if_neg cq]
      exact h.2.2.2.1.2.1 q hq
  · intro q v hq hv
    have hv : (if q = j then some p else s.ch q) = some v := hv
    by_cases cq : q = j
    · rw [if_pos cq] at hv; cases hv; exact hp
    · rw [if_neg cq] at hv
      exact h.2.2.2.2.2.1 q v hq hv
theorem d118 {d c : Nat} {M : Mm} {k : mQ} {r : Nat} {s : Ms} {x n : Int32} (h : RP M r s) (hi : IvS c s) (hc : c < 512) (hk : ∀ M', RP M' r (mPut x n s).2 → Rr r M M' → k (some (.inl (mPut x n s).1)) M') : XC (d + 3) 118 [.inr (some r), .inl x, .inl n] M k := by
  obtain ⟨h1, o1⟩ := h.th
  have rr1 : Rr r M (M.si r 0 0) := o1.rr (fun _ q => q.elim)
  generalize hM1 : M.si r 0 0 = M1 at h1 o1 rr1
  have hs := h.1
  have hs1 := h1.1
  have f2 : M1.it r 2 = nI s.tp.length := h1.2.1.1.1
  have f5 : M1.it r 5 = bI s.off := h1.2.1.1.2.1
  have hm : s.mu ≤ c := hi.2.2.1.2.2.2.1
  have hl : s.tp.length ≤ 200 := hi.2.2.2.2.2.2.1.1
  have no : (keyOf x = none ∨ s.off = true ∨ n.toInt < 0 ∨ 100 < n.toInt ∨ (s.tp.length : Int) < n.toInt) → k (some (.inl (-1))) M1 := by
    intro hn
    have e : mPut x n s = (-1, s) := by
      unfold mPut
      cases hx : keyOf x with
      | none => rfl
      | some j =>
        rcases hn with hn | hn
        · rw [hx] at hn; cases hn
        · exact if_pos hn
    rw [e] at hk
    exact hk M1 h1 rr1
  refine xc ?_
  show X (d + 2) 118 0 [some (.inr (some r)), some (.inl x), some (.inl n), none] [] M k
  cases ho : s.off with
  | true =>
    rw [ho, bI_t] at f5
    refine vc_X 20 _ _ _ _ _ _ _ ?_
    simp only [↓v118_0, ↓v118_1, ↓v118_2, ↓v118_5, ↓v118_6, ↓v118_9, ↓v118_12, ↓v118_13, ↓v118_16, ↓v118_19, ↓v118_20, ↓v118_23, ↓v118_24, ↓v118_26, ↓v118_29, ↓v118_30, ↓v118_31, ↓v118_34, ↓v118_37, ↓v118_38, ↓v118_39, ↓v118_40, ↓v118_41, ↓v118_42, ↓v118_43, ↓v118_46, ↓v118_47, ↓v118_50, ↓v118_52, ↓v118_53, ↓v118_54, ↓v118_55, ↓v118_58, ↓v118_59, ↓v118_60, ↓v118_61, ↓v118_64, ↓v118_67, ↓v118_68, ↓v118_69, ↓v118_72, ↓v118_73, ↓v118_76, ↓v118_77, ↓v118_78, ↓v118_79, ↓v118_80, ↓v118_81, ↓v118_84, ↓v118_85, ↓v118_86, ↓v118_87, ↓v118_90, ↓v118_91, ↓v118_93, ↓v118_96, ↓v118_97, ↓v118_98, ↓v118_101, ↓v118_103, ↓v118_106, ↓v118_107, ↓v118_109, ↓v118_112, ↓v118_113, ↓v118_114, ↓v118_117, ↓v118_118, ↓v118_119, ↓v118_120, ↓v118_121, ↓v118_122, ↓v118_125, ↓v118_126, ↓v118_127, ↓v118_130, ↓v118_131, ↓v118_134, ↓qI_c, ↓qL_c, ↓qR_c, ↓pA_o, ↓qC_i, ↓qC_r, ↓oA_s, ↓gI_0, ↓gI_1, ↓gI_2, ↓gI_3, ↓gI_4, ↓gI_5, ↓gI_6, ↓gI_7, ↓gI_8, ↓gI_9, ↓gI_10, ↓gR_0, ↓gR_1, ↓gR_2, ↓gR_3, ↓gR_4, ↓gR_5, ↓gR_6, ↓gR_7, ↓gR_8, ↓gR_9, ↓gR_10, ↓sL_0, ↓sL_1, ↓sL_2, ↓sL_3, ↓sL_4, ↓sL_5, ↓sL_6, ↓sL_7, ↓sL_8, ↓sL_9, ↓sL_10, ↓rrf_si, ↓rrf_sg, ↓shO_si, ↓shO_sg, ↓shO_sr, ↓shA_si, ↓shA_sg, ↓shA_sr, ↓pAs_0, ↓pAs_i, ↓pAs_r, stk_n, stk_i, stk_l, stk_r, List.nil_append, List.cons_append, true_and, and_true, true_or, or_true, Nat.zero_add, dp_s, Nat.reduceAdd, le8_0, le8_1, le8_2, le8_3, le8_4, le8_5, le8_6, le8_7, le8_8, Classical.not_not, aT40, aT41, aT42, aT44, aT54, aT58, aT59, rT54, rT58, rT59, reduceIte, Nat.reduceEqDiff, qn_42, qn_44, true_implies, not_true_eq_false, not_false_eq_true, false_implies, hM1, ↓shO_of hs.1.1, f5, i10]
    exact no (Or.inr (Or.inl ho))
  | false =>
    rw [ho, bI_f] at f5
    refine vc_X 20 _ _ _ _ _ _ _ ?_
    simp only [↓v118_0, ↓v118_1, ↓v118_2, ↓v118_5, ↓v118_6, ↓v118_9, ↓v118_12, ↓v118_13, ↓v118_16, ↓v118_19, ↓v118_20, ↓v118_23, ↓v118_24, ↓v118_26, ↓v118_29, ↓v118_30, ↓v118_31, ↓v118_34, ↓v118_37, ↓v118_38, ↓v118_39, ↓v118_40, ↓v118_41, ↓v118_42, ↓v118_43, ↓v118_46, ↓v118_47, ↓v118_50, ↓v118_52, ↓v118_53, ↓v118_54, ↓v118_55, ↓v118_58, ↓v118_59, ↓v118_60, ↓v118_61, ↓v118_64, ↓v118_67, ↓v118_68, ↓v118_69, ↓v118_72, ↓v118_73, ↓v118_76, ↓v118_77, ↓v118_78, ↓v118_79, ↓v118_80, ↓v118_81, ↓v118_84, ↓v118_85, ↓v118_86, ↓v118_87, ↓v118_90, ↓v118_91, ↓v118_93, ↓v118_96, ↓v118_97, ↓v118_98, ↓v118_101, ↓v118_103, ↓v118_106, ↓v118_107, ↓v118_109, ↓v118_112, ↓v118_113, ↓v118_114, ↓v118_117, ↓v118_118, ↓v118_119, ↓v118_120, ↓v118_121, ↓v118_122, ↓v118_125, ↓v118_126, ↓v118_127, ↓v118_130, ↓v118_131, ↓v118_134, ↓qI_c, ↓qL_c, ↓qR_c, ↓pA_o, ↓qC_i, ↓qC_r, ↓oA_s, ↓gI_0, ↓gI_1, ↓gI_2, ↓gI_3, ↓gI_4, ↓gI_5, ↓gI_6, ↓gI_7, ↓gI_8, ↓gI_9, ↓gI_10, ↓gR_0, ↓gR_1, ↓gR_2, ↓gR_3, ↓gR_4, ↓gR_5, ↓gR_6, ↓gR_7, ↓gR_8, ↓gR_9, ↓gR_10, ↓sL_0, ↓sL_1, ↓sL_2, ↓sL_3, ↓sL_4, ↓sL_5, ↓sL_6, ↓sL_7, ↓sL_8, ↓sL_9, ↓sL_10, ↓rrf_si, ↓rrf_sg, ↓shO_si, ↓shO_sg, ↓shO_sr, ↓shA_si, ↓shA_sg, ↓shA_sr, ↓pAs_0, ↓pAs_i, ↓pAs_r, stk_n, stk_i, stk_l, stk_r, List.nil_append, List.cons_append, true_and, and_true, true_or, or_true, Nat.zero_add, dp_s, Nat.reduceAdd, le8_0, le8_1, le8_2, le8_3, le8_4, le8_5, le8_6, le8_7, le8_8, Classical.not_not, aT40, aT41, aT42, aT44, aT54, aT58, aT59, rT54, rT58, rT59, reduceIte, Nat.reduceEqDiff, qn_42, qn_44, true_implies, not_true_eq_false, not_false_eq_true, false_implies, hM1, ↓shO_of hs.1.1, f5, i00]
    refine e119 (fun hin => ⟨1, rfl, ?_⟩) (fun hin => ⟨0, rfl, ?_⟩)
    rotate_left
    · refine vc_X 20 _ _ _ _ _ _ _ ?_
      simp only [↓v118_0, ↓v118_1, ↓v118_2, ↓v118_5, ↓v118_6, ↓v118_9, ↓v118_12, ↓v118_13, ↓v118_16, ↓v118_19, ↓v118_20, ↓v118_23, ↓v118_24, ↓v118_26, ↓v118_29, ↓v118_30, ↓v118_31, ↓v118_34, ↓v118_37, ↓v118_38, ↓v118_39, ↓v118_40, ↓v118_41, ↓v118_42, ↓v118_43, ↓v118_46, ↓v118_47, ↓v118_50, ↓v118_52, ↓v118_53, ↓v118_54, ↓v118_55, ↓v118_58, ↓v118_59, ↓v118_60, ↓v118_61, ↓v118_64, ↓v118_67, ↓v118_68, ↓v118_69, ↓v118_72, ↓v118_73, ↓v118_76, ↓v118_77, ↓v118_78, ↓v118_79, ↓v118_80, ↓v118_81, ↓v118_84, ↓v118_85, ↓v118_86, ↓v118_87, ↓v118_90, ↓v118_91, ↓v118_93, ↓v118_96, ↓v118_97, ↓v118_98, ↓v118_101, ↓v118_103, ↓v118_106, ↓v118_107, ↓v118_109, ↓v118_112, ↓v118_113, ↓v118_114, ↓v118_117, ↓v118_118, ↓v118_119, ↓v118_120, ↓v118_121, ↓v118_122, ↓v118_125, ↓v118_126, ↓v118_127, ↓v118_130, ↓v118_131, ↓v118_134, ↓qI_c, ↓qL_c, ↓qR_c, ↓pA_o, ↓qC_i, ↓qC_r, ↓oA_s, ↓gI_0, ↓gI_1, ↓gI_2, ↓gI_3, ↓gI_4, ↓gI_5, ↓gI_6, ↓gI_7, ↓gI_8, ↓gI_9, ↓gI_10, ↓gR_0, ↓gR_1, ↓gR_2, ↓gR_3, ↓gR_4, ↓gR_5, ↓gR_6, ↓gR_7, ↓gR_8, ↓gR_9, ↓gR_10, ↓sL_0, ↓sL_1, ↓sL_2, ↓sL_3, ↓sL_4, ↓sL_5, ↓sL_6, ↓sL_7, ↓sL_8, ↓sL_9, ↓sL_10, ↓rrf_si, ↓rrf_sg, ↓shO_si, ↓shO_sg, ↓shO_sr, ↓shA_si, ↓shA_sg, ↓shA_sr, ↓pAs_0, ↓pAs_i, ↓pAs_r, stk_n, stk_i, stk_l, stk_r, List.nil_append, List.cons_append, true_and, and_true, true_or, or_true, Nat.zero_add, dp_s, Nat.reduceAdd, le8_0, le8_1, le8_2, le8_3, le8_4, le8_5, le8_6, le8_7, le8_8, Classical.not_not, aT40, aT41, aT42, aT44, aT54, aT58, aT59, rT54, rT58, rT59, reduceIte, Nat.reduceEqDiff, qn_42, qn_44, true_implies, not_true_eq_false, not_false_eq_true, false_implies, i00]
      exact no (Or.inl (keyOf_no hin))
    obtain ⟨j, hj, rfl⟩ := inB_of hin (by omega)
    have hx := keyOf_n hj
    refine vc_X 40 _ _ _ _ _ _ _ ?_
    simp only [↓v118_0, ↓v118_1, ↓v118_2, ↓v118_5, ↓v118_6, ↓v118_9, ↓v118_12, ↓v118_13, ↓v118_16, ↓v118_19, ↓v118_20, ↓v118_23, ↓v118_24, ↓v118_26, ↓v118_29, ↓v118_30, ↓v118_31, ↓v118_34, ↓v118_37, ↓v118_38, ↓v118_39, ↓v118_40, ↓v118_41, ↓v118_42, ↓v118_43, ↓v118_46, ↓v118_47, ↓v118_50, ↓v118_52, ↓v118_53, ↓v118_54, ↓v118_55, ↓v118_58, ↓v118_59, ↓v118_60, ↓v118_61, ↓v118_64, ↓v118_67, ↓v118_68, ↓v118_69, ↓v118_72, ↓v118_73, ↓v118_76, ↓v118_77, ↓v118_78, ↓v118_79, ↓v118_80, ↓v118_81, ↓v118_84, ↓v118_85, ↓v118_86, ↓v118_87, ↓v118_90, ↓v118_91, ↓v118_93, ↓v118_96, ↓v118_97, ↓v118_98, ↓v118_101, ↓v118_103, ↓v118_106, ↓v118_107, ↓v118_109, ↓v118_112, ↓v118_113, ↓v118_114, ↓v118_117, ↓v118_118, ↓v118_119, ↓v118_120, ↓v118_121, ↓v118_122, ↓v118_125, ↓v118_126, ↓v118_127, ↓v118_130, ↓v118_131, ↓v118_134, ↓qI_c, ↓qL_c, ↓qR_c, ↓pA_o, ↓qC_i, ↓qC_r, ↓oA_s, ↓gI_0, ↓gI_1, ↓gI_2, ↓gI_3, ↓gI_4, ↓gI_5, ↓gI_6, ↓gI_7, ↓gI_8, ↓gI_9, ↓gI_10, ↓gR_0, ↓gR_1, ↓gR_2, ↓gR_3, ↓gR_4, ↓gR_5, ↓gR_6, ↓gR_7, ↓gR_8, ↓gR_9, ↓gR_10, ↓sL_0, ↓sL_1, ↓sL_2, ↓sL_3, ↓sL_4, ↓sL_5, ↓sL_6, ↓sL_7, ↓sL_8, ↓sL_9, ↓sL_10, ↓rrf_si, ↓rrf_sg, ↓shO_si, ↓shO_sg, ↓shO_sr, ↓shA_si, ↓shA_sg, ↓shA_sr, ↓pAs_0, ↓pAs_i, ↓pAs_r, stk_n, stk_i, stk_l, stk_r, List.nil_append, List.cons_append, true_and, and_true, true_or, or_true, Nat.zero_add, dp_s, Nat.reduceAdd, le8_0, le8_1, le8_2, le8_3, le8_4, le8_5, le8_6, le8_7, le8_8, Classical.not_not, aT40, aT41, aT42, aT44, aT54, aT58, aT59, rT54, rT58, rT59, reduceIte, Nat.reduceEqDiff, qn_42, qn_44, true_implies, not_true_eq_false, not_false_eq_true, false_implies, i10, lt_T, le_T, T_0, T_100, ↓shO_of hs1.1.1, f2, nT (show s.tp.length < 2147483648 by omega)]
    refine ⟨fun c1 => no (Or.inr (Or.inr (Or.inl c1))), fun c1 => ⟨fun c2 => no (Or.inr (Or.inr (Or.inr (Or.inl c2)))), fun c2 => ⟨fun c3 => ?_, fun c3 => no (Or.inr (Or.inr (Or.inr (Or.inr (by omega)))))⟩⟩⟩
    obtain ⟨m, hm1, rfl⟩ := inB_of (x := n) (n := 101) ⟨by omega, by omega⟩ (by omega)
    rw [nT (by omega)] at c3
    have hm2 : m ≤ s.tp.length := by omega
    have eP : mPut (nI j) (nI m) s = (match tkE s.pt s.op ((m + 23) / 16) 3 with
      | none => (-2, sT ([], s.ou) s)
      | some e => if 120 < s.ws.length + (m + 23) / 16 then (-3, sT ([], s.ou) s) else (nI (s.mu + 1), sMu (sCh j (16 * e + s.pt e) (mkC 1 j (s.tp.take m) e (sT ([], s.ou) s))))) := by
      unfold mPut
      rw [hx]
      show (if _ then _ else _ : Int32 × Ms) = _
      rw [nT (by omega), Int.toNat_natCast, if_neg (by rw [ho]; simp; omega)]
      rfl
    rw [eP] at hk
    clear eP no c1 c2 c3
    have hct : (s.tp.take m).length = m := by rw [List.length_take]; omega
    have tl := h1.2.2.1.1
    have lop : ∀ (q i : Nat) (M2 : Mm), i + q = m → Rf r (· = r + 19) [] M1 M2 → (∀ a, a < i → M2.it (r + 19) (6 + a) &&& 255 = nI ((s.tp[a]?).getD 0)) → X (d + 2) 118 41 [some (.inr (some r)), some (.inl (nI j)), some (.inl (nI m)), some (.inl (nI i))] [] M2 k := by
      intro q
      induction q with
      | succ q ih =>
        intro i M2 hiq o2 hb
        have hs2 := hs1.oi o2.1
        have e6 : (6 : Int32) + nI i = nI (6 + i) := by rw [n_6, nI_add]
        refine vc_X 40 _ _ _ _ _ _ _ ?_
        simp only [↓v118_0, ↓v118_1, ↓v118_2, ↓v118_5, ↓v118_6, ↓v118_9, ↓v118_12, ↓v118_13, ↓v118_16, ↓v118_19, ↓v118_20, ↓v118_23, ↓v118_24, ↓v118_26, ↓v118_29, ↓v118_30, ↓v118_31, ↓v118_34, ↓v118_37, ↓v118_38, ↓v118_39, ↓v118_40, ↓v118_41, ↓v118_42, ↓v118_43, ↓v118_46, ↓v118_47, ↓v118_50, ↓v118_52, ↓v118_53, ↓v118_54, ↓v118_55, ↓v118_58, ↓v118_59, ↓v118_60, ↓v118_61, ↓v118_64, ↓v118_67, ↓v118_68, ↓v118_69, ↓v118_72, ↓v118_73, ↓v118_76, ↓v118_77, ↓v118_78, ↓v118_79, ↓v118_80, ↓v118_81, ↓v118_84, ↓v118_85, ↓v118_86, ↓v118_87, ↓v118_90, ↓v118_91, ↓v118_93, ↓v118_96, ↓v118_97, ↓v118_98, ↓v118_101, ↓v118_103, ↓v118_106, ↓v118_107, ↓v118_109, ↓v118_112, ↓v118_113, ↓v118_114, ↓v118_117, ↓v118_118, ↓v118_119, ↓v118_120, ↓v118_121, ↓v118_122, ↓v118_125, ↓v118_126, ↓v118_127, ↓v118_130, ↓v118_131, ↓v118_134, ↓qI_c, ↓qL_c, ↓qR_c, ↓pA_o, ↓qC_i, ↓qC_r, ↓oA_s, ↓gI_0, ↓gI_1, ↓gI_2, ↓gI_3, ↓gI_4, ↓gI_5, ↓gI_6, ↓gI_7, ↓gI_8, ↓gI_9, ↓gI_10, ↓gR_0, ↓gR_1, ↓gR_2, ↓gR_3, ↓gR_4, ↓gR_5, ↓gR_6, ↓gR_7, ↓gR_8, ↓gR_9, ↓gR_10, ↓sL_0, ↓sL_1, ↓sL_2, ↓sL_3, ↓sL_4, ↓sL_5, ↓sL_6, ↓sL_7, ↓sL_8, ↓sL_9, ↓sL_10, ↓rrf_si, ↓rrf_sg, ↓shO_si, ↓shO_sg, ↓shO_sr, ↓shA_si, ↓shA_sg, ↓shA_sr, ↓pAs_0, ↓pAs_i, ↓pAs_r, stk_n, stk_i, stk_l, stk_r, List.nil_append, List.cons_append, true_and, and_true, true_or, or_true, Nat.zero_add, dp_s, Nat.reduceAdd, le8_0, le8_1, le8_2, le8_3, le8_4, le8_5, le8_6, le8_7, le8_8, Classical.not_not, aT40, aT41, aT42, aT44, aT54, aT58, aT59, rT54, rT58, rT59, reduceIte, Nat.reduceEqDiff, qn_42, qn_44, true_implies, not_true_eq_false, not_false_eq_true, false_implies, le_T, nT (show i < 2147483648 by omega), nT (show m < 2147483648 by omega), ↓shO_of hs2.1.1, ↓rrf_of hs2.2.2.1.2.2.2.2.1, ↓shA_of hs2.2.2.2.2.2.2.2.1, ↓rrf_of hs2.1.2.1, ↓shA_of hs2.2.2.2.1.1, nC (show i < 2147483648 by omega), e6, nC (show 6 + i < 2147483648 by omega), nI_1]
        refine ⟨fun c => by omega, fun _ => ⟨inB_n (by omega) (by omega), inB_n (by omega) (by omega), ?_⟩⟩
        refine ih (i + 1) _ (by omega) (o2.row rfl (by omega)) (fun a ha => ?_)
        by_cases ca : a = i
        · subst ca
          rw [si_it, if_pos ⟨rfl, rfl⟩, nar_and, o2.at_ (by omega) (by omega)]
          have hx := List.getElem?_eq_getElem (show a < s.tp.length by omega)
          rw [hx]
          exact tl a _ hx
        · rw [si_it, if_neg (fun z => by omega)]
          exact hb a (by omega)
      | zero =>
        intro i M2 hiq o2 hb
        have e : i = m := by omega
        subst e
        have hs2 := hs1.oi o2.1
        generalize hM3 : M2.si r 2 0 = M3
        have o3 : Rf r (· = r + 19) [2] M1 M3 := by rw [← hM3]; exact (o2.mono (Fs := [2]) (fun _ q => q) (fun _ q => by cases q)).fld (by simp)
        have h3 : RP M3 r (sT ([], s.ou) s) := h1.uT o3 (by decide) ⟨by omega, by omega, by omega, by omega, by omega, by omega, by omega, by omega, by omega, by omega, fun y y1 y2 => by omega⟩ (by rw [← hM3, si_it, if_pos ⟨rfl, rfl⟩]; rfl) (fun a v hv => by cases hv)
        refine vc_X 30 _ _ _ _ _ _ _ ?_
        simp only [↓v118_0, ↓v118_1, ↓v118_2, ↓v118_5, ↓v118_6, ↓v118_9, ↓v118_12, ↓v118_13, ↓v118_16, ↓v118_19, ↓v118_20, ↓v118_23, ↓v118_24, ↓v118_26, ↓v118_29, ↓v118_30, ↓v118_31, ↓v118_34, ↓v118_37, ↓v118_38, ↓v118_39, ↓v118_40, ↓v118_41, ↓v118_42, ↓v118_43, ↓v118_46, ↓v118_47, ↓v118_50, ↓v118_52, ↓v118_53, ↓v118_54, ↓v118_55, ↓v118_58, ↓v118_59, ↓v118_60, ↓v118_61, ↓v118_64, ↓v118_67, ↓v118_68, ↓v118_69, ↓v118_72, ↓v118_73, ↓v118_76, ↓v118_77, ↓v118_78, ↓v118_79, ↓v118_80, ↓v118_81, ↓v118_84, ↓v118_85, ↓v118_86, ↓v118_87, ↓v118_90, ↓v118_91, ↓v118_93, ↓v118_96, ↓v118_97, ↓v118_98, ↓v118_101, ↓v118_103, ↓v118_106, ↓v118_107, ↓v118_109, ↓v118_112, ↓v118_113, ↓v118_114, ↓v118_117, ↓v118_118, ↓v118_119, ↓v118_120, ↓v118_121, ↓v118_122, ↓v118_125, ↓v118_126, ↓v118_127, ↓v118_130, ↓v118_131, ↓v118_134, ↓qI_c, ↓qL_c, ↓qR_c, ↓pA_o, ↓qC_i, ↓qC_r, ↓oA_s, ↓gI_0, ↓gI_1, ↓gI_2, ↓gI_3, ↓gI_4, ↓gI_5, ↓gI_6, ↓gI_7, ↓gI_8, ↓gI_9, ↓gI_10, ↓gR_0, ↓gR_1, ↓gR_2, ↓gR_3, ↓gR_4, ↓gR_5, ↓gR_6, ↓gR_7, ↓gR_8, ↓gR_9, ↓gR_10, ↓sL_0, ↓sL_1, ↓sL_2, ↓sL_3, ↓sL_4, ↓sL_5, ↓sL_6, ↓sL_7, ↓sL_8, ↓sL_9, ↓sL_10, ↓rrf_si, ↓rrf_sg, ↓shO_si, ↓shO_sg, ↓shO_sr, ↓shA_si, ↓shA_sg, ↓shA_sr, ↓pAs_0, ↓pAs_i, ↓pAs_r, stk_n, stk_i, stk_l, stk_r, List.nil_append, List.cons_append, true_and, and_true, true_or, or_true, Nat.zero_add, dp_s, Nat.reduceAdd, le8_0, le8_1, le8_2, le8_3, le8_4, le8_5, le8_6, le8_7, le8_8, Classical.not_not, aT40, aT41, aT42, aT44, aT54, aT58, aT59, rT54, rT58, rT59, reduceIte, Nat.reduceEqDiff, qn_42, qn_44, true_implies, not_true_eq_false, not_false_eq_true, false_implies, le_T, nT (show i < 2147483648 by omega), Int.le_refl, ↓shO_of hs2.1.1, hM3]
        refine e120 h3.1 (fun M4 kp4 o4 => ⟨rfl, ?_⟩)
        have h4 := h3.rf0 o4 (fun y q => Or.inl q) (by decide)
        have o14 : Rf r (fun y => y = r + 19 ∨ y = r + 6) [2] M1 M4 := (o3.mono (fun _ q => Or.inl q) (fun _ q => q)).trans o4 (fun _ q => Or.inr q) (fun _ q => by cases q)
        have rr4 : Rr r M M4 := rr1.trans (o14.rr (fun y hy => by omega)) (fun _ q => q)
        have e1 : (1 : Int32) = nI 1 := rfl
        have e3 : (3 : Int32) = nI 3 := rfl
        refine vc_X 30 _ _ _ _ _ _ _ ?_
        simp only [↓v118_0, ↓v118_1, ↓v118_2, ↓v118_5, ↓v118_6, ↓v118_9, ↓v118_12, ↓v118_13, ↓v118_16, ↓v118_19, ↓v118_20, ↓v118_23, ↓v118_24, ↓v118_26, ↓v118_29, ↓v118_30, ↓v118_31, ↓v118_34, ↓v118_37, ↓v118_38, ↓v118_39, ↓v118_40, ↓v118_41, ↓v118_42, ↓v118_43, ↓v118_46, ↓v118_47, ↓v118_50, ↓v118_52, ↓v118_53, ↓v118_54, ↓v118_55, ↓v118_58, ↓v118_59, ↓v118_60, ↓v118_61, ↓v118_64, ↓v118_67, ↓v118_68, ↓v118_69, ↓v118_72, ↓v118_73, ↓v118_76, ↓v118_77, ↓v118_78, ↓v118_79, ↓v118_80, ↓v118_81, ↓v118_84, ↓v118_85, ↓v118_86, ↓v118_87, ↓v118_90, ↓v118_91, ↓v118_93, ↓v118_96, ↓v118_97, ↓v118_98, ↓v118_101, ↓v118_103, ↓v118_106, ↓v118_107, ↓v118_109, ↓v118_112, ↓v118_113, ↓v118_114, ↓v118_117, ↓v118_118, ↓v118_119, ↓v118_120, ↓v118_121, ↓v118_122, ↓v118_125, ↓v118_126, ↓v118_127, ↓v118_130, ↓v118_131, ↓v118_134, ↓qI_c, ↓qL_c, ↓qR_c, ↓pA_o, ↓qC_i, ↓qC_r, ↓oA_s, ↓gI_0, ↓gI_1, ↓gI_2, ↓gI_3, ↓gI_4, ↓gI_5, ↓gI_6, ↓gI_7, ↓gI_8, ↓gI_9, ↓gI_10, ↓gR_0, ↓gR_1, ↓gR_2, ↓gR_3, ↓gR_4, ↓gR_5, ↓gR_6, ↓gR_7, ↓gR_8, ↓gR_9, ↓gR_10, ↓sL_0, ↓sL_1, ↓sL_2, ↓sL_3, ↓sL_4, ↓sL_5, ↓sL_6, ↓sL_7, ↓sL_8, ↓sL_9, ↓sL_10, ↓rrf_si, ↓rrf_sg, ↓shO_si, ↓shO_sg, ↓shO_sr, ↓shA_si, ↓shA_sg, ↓shA_sr, ↓pAs_0, ↓pAs_i, ↓pAs_r, stk_n, stk_i, stk_l, stk_r, List.nil_append, List.cons_append, true_and, and_true, true_or, or_true, Nat.zero_add, dp_s, Nat.reduceAdd, le8_0, le8_1, le8_2, le8_3, le8_4, le8_5, le8_6, le8_7, le8_8, Classical.not_not, aT40, aT41, aT42, aT44, aT54, aT58, aT59, rT54, rT58, rT59, reduceIte, Nat.reduceEqDiff, qn_42, qn_44, true_implies, not_true_eq_false, not_false_eq_true, false_implies, ↓shO_of h4.1.1.1]
        rw [e1, e3]
        have hi2 := inv_tape hi
        have hwl : s.ws.length ≤ 120 := hi.2.2.1.1
        refine e121n hct h4 (hi2.1 ho) hi2.2.2.mid hc (by omega) (by omega) (show s.ws.length + _ ≤ 160 by omega) (by omega) (by omega) (by omega) (fun v hv => hi.2.2.2.2.2.2.1.2 v (List.mem_of_mem_take hv)) (fun a v hv => ?_) (by omega) (by omega) (fun htk => ⟨_, rfl, ?_⟩) (fun e M5 htk h5 o5 => ⟨_, rfl, ?_⟩)
        · have ha := (List.getElem?_eq_some_iff.mp hv).1
          rw [hct] at ha
          rw [o4.at_ (by omega) (by omega), ← hM3, si_it, if_neg (by omega), hb a ha]
          rw [List.getElem?_take, if_pos ha] at hv
          rw [hv]
          rfl
        · have htk : tkE s.pt s.op ((i + 23) / 16) 3 = none := htk
          rw [htk] at hk
          refine vc_X 30 _ _ _ _ _ _ _ ?_
          simp only [↓v118_0, ↓v118_1, ↓v118_2, ↓v118_5, ↓v118_6, ↓v118_9, ↓v118_12, ↓v118_13, ↓v118_16, ↓v118_19, ↓v118_20, ↓v118_23, ↓v118_24, ↓v118_26, ↓v118_29, ↓v118_30, ↓v118_31, ↓v118_34, ↓v118_37, ↓v118_38, ↓v118_39, ↓v118_40, ↓v118_41, ↓v118_42, ↓v118_43, ↓v118_46, ↓v118_47, ↓v118_50, ↓v118_52, ↓v118_53, ↓v118_54, ↓v118_55, ↓v118_58, ↓v118_59, ↓v118_60, ↓v118_61, ↓v118_64, ↓v118_67, ↓v118_68, ↓v118_69, ↓v118_72, ↓v118_73, ↓v118_76, ↓v118_77, ↓v118_78, ↓v118_79, ↓v118_80, ↓v118_81, ↓v118_84, ↓v118_85, ↓v118_86, ↓v118_87, ↓v118_90, ↓v118_91, ↓v118_93, ↓v118_96, ↓v118_97, ↓v118_98, ↓v118_101, ↓v118_103, ↓v118_106, ↓v118_107, ↓v118_109, ↓v118_112, ↓v118_113, ↓v118_114, ↓v118_117, ↓v118_118, ↓v118_119, ↓v118_120, ↓v118_121, ↓v118_122, ↓v118_125, ↓v118_126, ↓v118_127, ↓v118_130, ↓v118_131, ↓v118_134, ↓qI_c, ↓qL_c, ↓qR_c, ↓pA_o, ↓qC_i, ↓qC_r, ↓oA_s, ↓gI_0, ↓gI_1, ↓gI_2, ↓gI_3, ↓gI_4, ↓gI_5, ↓gI_6, ↓gI_7, ↓gI_8, ↓gI_9, ↓gI_10, ↓gR_0, ↓gR_1, ↓gR_2, ↓gR_3, ↓gR_4, ↓gR_5, ↓gR_6, ↓gR_7, ↓gR_8, ↓gR_9, ↓gR_10, ↓sL_0, ↓sL_1, ↓sL_2, ↓sL_3, ↓sL_4, ↓sL_5, ↓sL_6, ↓sL_7, ↓sL_8, ↓sL_9, ↓sL_10, ↓rrf_si, ↓rrf_sg, ↓shO_si, ↓shO_sg, ↓shO_sr, ↓shA_si, ↓shA_sg, ↓shA_sr, ↓pAs_0, ↓pAs_i, ↓pAs_r, stk_n, stk_i, stk_l, stk_r, List.nil_append, List.cons_append, true_and, and_true, true_or, or_true, Nat.zero_add, dp_s, Nat.reduceAdd, le8_0, le8_1, le8_2, le8_3, le8_4, le8_5, le8_6, le8_7, le8_8, Classical.not_not, aT40, aT41, aT42, aT44, aT54, aT58, aT59, rT54, rT58, rT59, reduceIte, Nat.reduceEqDiff, qn_42, qn_44, true_implies, not_true_eq_false, not_false_eq_true, false_implies, ↓shO_of h4.1.1.1]
          refine e127 h4.1 kp4 (fun M6 A B C o6 => ⟨_, rfl, ?_⟩)
          refine vc_X 30 _ _ _ _ _ _ _ ?_
          simp only [↓v118_0, ↓v118_1, ↓v118_2, ↓v118_5, ↓v118_6, ↓v118_9, ↓v118_12, ↓v118_13, ↓v118_16, ↓v118_19, ↓v118_20, ↓v118_23, ↓v118_24, ↓v118_26, ↓v118_29, ↓v118_30, ↓v118_31, ↓v118_34, ↓v118_37, ↓v118_38, ↓v118_39, ↓v118_40, ↓v118_41, ↓v118_42, ↓v118_43, ↓v118_46, ↓v118_47, ↓v118_50, ↓v118_52, ↓v118_53, ↓v118_54, ↓v118_55, ↓v118_58, ↓v118_59, ↓v118_60, ↓v118_61, ↓v118_64, ↓v118_67, ↓v118_68, ↓v118_69, ↓v118_72, ↓v118_73, ↓v118_76, ↓v118_77, ↓v118_78, ↓v118_79, ↓v118_80, ↓v118_81, ↓v118_84, ↓v118_85, ↓v118_86, ↓v118_87, ↓v118_90, ↓v118_91, ↓v118_93, ↓v118_96, ↓v118_97, ↓v118_98, ↓v118_101, ↓v118_103, ↓v118_106, ↓v118_107, ↓v118_109, ↓v118_112, ↓v118_113, ↓v118_114, ↓v118_117, ↓v118_118, ↓v118_119, ↓v118_120, ↓v118_121, ↓v118_122, ↓v118_125, ↓v118_126, ↓v118_127, ↓v118_130, ↓v118_131, ↓v118_134, ↓qI_c, ↓qL_c, ↓qR_c, ↓pA_o, ↓qC_i, ↓qC_r, ↓oA_s, ↓gI_0, ↓gI_1, ↓gI_2, ↓gI_3, ↓gI_4, ↓gI_5, ↓gI_6, ↓gI_7, ↓gI_8, ↓gI_9, ↓gI_10, ↓gR_0, ↓gR_1, ↓gR_2, ↓gR_3, ↓gR_4, ↓gR_5, ↓gR_6, ↓gR_7, ↓gR_8, ↓gR_9, ↓gR_10, ↓sL_0, ↓sL_1, ↓sL_2, ↓sL_3, ↓sL_4, ↓sL_5, ↓sL_6, ↓sL_7, ↓sL_8, ↓sL_9, ↓sL_10, ↓rrf_si, ↓rrf_sg, ↓shO_si, ↓shO_sg, ↓shO_sr, ↓shA_si, ↓shA_sg, ↓shA_sr, ↓pAs_0, ↓pAs_i, ↓pAs_r, stk_n, stk_i, stk_l, stk_r, List.nil_append, List.cons_append, true_and, and_true, true_or, or_true, Nat.zero_add, dp_s, Nat.reduceAdd, le8_0, le8_1, le8_2, le8_3, le8_4, le8_5, le8_6, le8_7, le8_8, Classical.not_not, aT40, aT41, aT42, aT44, aT54, aT58, aT59, rT54, rT58, rT59, reduceIte, Nat.reduceEqDiff, qn_42, qn_44, true_implies, not_true_eq_false, not_false_eq_true, false_implies]
          exact hk M6 (h3.undo o4 (fun y q => by omega) (by decide) h4.2.2.2.1.2.2.2 A B C o6) (rr4.trans (o6.rr (fun y hy => by unfold PU at hy; omega)) (fun _ q => q))
        · have htk : tkE s.pt s.op ((i + 23) / 16) 3 = some e := htk
          rw [htk] at hk
          have hk : ∀ M', RP M' r (if 120 < s.ws.length + (i + 23) / 16 then (-3, sT ([], s.ou) s) else (nI (s.mu + 1), sMu (sCh j (16 * e + s.pt e) (mkC 1 j (s.tp.take i) e (sT ([], s.ou) s)))) : Int32 × Ms).2 → Rr r M M' → k (some (.inl (if 120 < s.ws.length + (i + 23) / 16 then (-3, sT ([], s.ou) s) else (nI (s.mu + 1), sMu (sCh j (16 * e + s.pt e) (mkC 1 j (s.tp.take i) e (sT ([], s.ou) s)))) : Int32 × Ms).1)) M' := hk
          obtain ⟨e8, en⟩ := tkE_ok hi.2.2.2.2.1.2 htk
          have f14 : M5.it r 14 = nI (s.ws.length + (i + 23) / 16) := by
            rw [h5.2.1.2.1]
            show nI (s.ws ++ nwM _ _ _ _ _ _ _).length = _
            rw [List.length_append, nwM_len, hct]
          have f13 : M5.it r 13 = nI s.mu := h5.2.1.1.2.2.2.2.2.2
          have rr5 : Rr r M M5 := rr4.trans (o5.rr (fun y hy => by unfold PMk PW at hy; omega)) (fun _ q => q)
          obtain ⟨h6, o6⟩ := h5.setCh (j := j) (p := 16 * e + s.pt e) hj (by omega)
          generalize hM6 : M5.si (r + 8) j (nI (16 * e + s.pt e)) = M6 at h6 o6
          have g13 : M6.it r 13 = nI s.mu := by rw [o6.2 13 (by simp)]; exact f13
          generalize hM7 : M6.si r 13 (nI (s.mu + 1)) = M7
          have o7 : Rf r (fun _ => False) [13] M6 M7 := by rw [← hM7]; exact Rf.rf_.fld (by simp)
          have k13 : M7.it r 13 = nI (s.mu + 1) := by rw [← hM7, si_it, if_pos ⟨rfl, rfl⟩]
          have ept : (sT ([], s.ou) s).pt = s.pt := rfl
          refine vc_X 60 _ _ _ _ _ _ _ ?_
          simp only [↓v118_0, ↓v118_1, ↓v118_2, ↓v118_5, ↓v118_6, ↓v118_9, ↓v118_12, ↓v118_13, ↓v118_16, ↓v118_19, ↓v118_20, ↓v118_23, ↓v118_24, ↓v118_26, ↓v118_29, ↓v118_30, ↓v118_31, ↓v118_34, ↓v118_37, ↓v118_38, ↓v118_39, ↓v118_40, ↓v118_41, ↓v118_42, ↓v118_43, ↓v118_46, ↓v118_47, ↓v118_50, ↓v118_52, ↓v118_53, ↓v118_54, ↓v118_55, ↓v118_58, ↓v118_59, ↓v118_60, ↓v118_61, ↓v118_64, ↓v118_67, ↓v118_68, ↓v118_69, ↓v118_72, ↓v118_73, ↓v118_76, ↓v118_77, ↓v118_78, ↓v118_79, ↓v118_80, ↓v118_81, ↓v118_84, ↓v118_85, ↓v118_86, ↓v118_87, ↓v118_90, ↓v118_91, ↓v118_93, ↓v118_96, ↓v118_97, ↓v118_98, ↓v118_101, ↓v118_103, ↓v118_106, ↓v118_107, ↓v118_109, ↓v118_112, ↓v118_113, ↓v118_114, ↓v118_117, ↓v118_118, ↓v118_119, ↓v118_120, ↓v118_121, ↓v118_122, ↓v118_125, ↓v118_126, ↓v118_127, ↓v118_130, ↓v118_131, ↓v118_134, ↓qI_c, ↓qL_c, ↓qR_c, ↓pA_o, ↓qC_i, ↓qC_r, ↓oA_s, ↓gI_0, ↓gI_1, ↓gI_2, ↓gI_3, ↓gI_4, ↓gI_5, ↓gI_6, ↓gI_7, ↓gI_8, ↓gI_9, ↓gI_10, ↓gR_0, ↓gR_1, ↓gR_2, ↓gR_3, ↓gR_4, ↓gR_5, ↓gR_6, ↓gR_7, ↓gR_8, ↓gR_9, ↓gR_10, ↓sL_0, ↓sL_1, ↓sL_2, ↓sL_3, ↓sL_4, ↓sL_5, ↓sL_6, ↓sL_7, ↓sL_8, ↓sL_9, ↓sL_10, ↓rrf_si, ↓rrf_sg, ↓shO_si, ↓shO_sg, ↓shO_sr, ↓shA_si, ↓shA_sg, ↓shA_sr, ↓pAs_0, ↓pAs_i, ↓pAs_r, stk_n, stk_i, stk_l, stk_r, List.nil_append, List.cons_append, true_and, and_true, true_or, or_true, Nat.zero_add, dp_s, Nat.reduceAdd, le8_0, le8_1, le8_2, le8_3, le8_4, le8_5, le8_6, le8_7, le8_8, Classical.not_not, aT40, aT41, aT42, aT44, aT54, aT58, aT59, rT54, rT58, rT59, reduceIte, Nat.reduceEqDiff, qn_42, qn_44, true_implies, not_true_eq_false, not_false_eq_true, false_implies, ept, nI_nm (show 16 * e + s.pt e < 2147483648 by omega) (show ((-1 : Int32)).toInt < 0 by decide), ↓shO_of h5.1.1.1, f14, le_T, T_120, nT (show s.ws.length + (i + 23) / 16 < 2147483648 by omega), ↓rrf_of h5.1.2.1.2.1, ↓shA_of h5.1.2.2.2.1.2.2.2.2.2.2.2, nC (show j < 2147483648 by omega), hM6, g13, nI_1, hM7, k13]
          refine ⟨fun cc => ⟨inB_n (by omega) (by omega), ?_⟩, fun cc => ?_⟩
          · rw [if_neg (by omega)] at hk
            have h7 : RP M7 r (sMu (sCh j (16 * e + s.pt e) (mkC 1 j (s.tp.take i) e (sT ([], s.ou) s)))) := h6.uMu o7 (by decide) ⟨id, id, id, id, id, id, id, id, id, id, id, fun _ _ _ => id⟩ (by rw [k13]; rfl)
            exact hk M7 h7 ((rr5.trans (o6.rr (fun y hy => by rw [hy]; omega)) (fun _ q => q)).trans (o7.rr (fun _ q => q.elim)) (fun _ q => q))
          · rw [if_pos (by omega)] at hk
            refine e127 h5.1 (M0 := M3) ?_ (fun M8 A B C o8 => ⟨_, rfl, ?_⟩)
            · have z : ∀ q, M5.it (r + 6) q = M4.it (r + 6) q := fun q => o5.at_ (by omega) (by unfold PMk PW; omega) q
              unfold Kp
              simp only [z]
              exact kp4
            refine vc_X 30 _ _ _ _ _ _ _ ?_
            simp only [↓v118_0, ↓v118_1, ↓v118_2, ↓v118_5, ↓v118_6, ↓v118_9, ↓v118_12, ↓v118_13, ↓v118_16, ↓v118_19, ↓v118_20, ↓v118_23, ↓v118_24, ↓v118_26, ↓v118_29, ↓v118_30, ↓v118_31, ↓v118_34, ↓v118_37, ↓v118_38, ↓v118_39, ↓v118_40, ↓v118_41, ↓v118_42, ↓v118_43, ↓v118_46, ↓v118_47, ↓v118_50, ↓v118_52, ↓v118_53, ↓v118_54, ↓v118_55, ↓v118_58, ↓v118_59, ↓v118_60, ↓v118_61, ↓v118_64, ↓v118_67, ↓v118_68, ↓v118_69, ↓v118_72, ↓v118_73, ↓v118_76, ↓v118_77, ↓v118_78, ↓v118_79, ↓v118_80, ↓v118_81, ↓v118_84, ↓v118_85, ↓v118_86, ↓v118_87, ↓v118_90, ↓v118_91, ↓v118_93, ↓v118_96, ↓v118_97, ↓v118_98, ↓v118_101, ↓v118_103, ↓v118_106, ↓v118_107, ↓v118_109, ↓v118_112, ↓v118_113, ↓v118_114, ↓v118_117, ↓v118_118, ↓v118_119, ↓v118_120, ↓v118_121, ↓v118_122, ↓v118_125, ↓v118_126, ↓v118_127, ↓v118_130, ↓v118_131, ↓v118_134, ↓qI_c, ↓qL_c, ↓qR_c, ↓pA_o, ↓qC_i, ↓qC_r, ↓oA_s, ↓gI_0, ↓gI_1, ↓gI_2, ↓gI_3, ↓gI_4, ↓gI_5, ↓gI_6, ↓gI_7, ↓gI_8, ↓gI_9, ↓gI_10, ↓gR_0, ↓gR_1, ↓gR_2, ↓gR_3, ↓gR_4, ↓gR_5, ↓gR_6, ↓gR_7, ↓gR_8, ↓gR_9, ↓gR_10, ↓sL_0, ↓sL_1, ↓sL_2, ↓sL_3, ↓sL_4, ↓sL_5, ↓sL_6, ↓sL_7, ↓sL_8, ↓sL_9, ↓sL_10, ↓rrf_si, ↓rrf_sg, ↓shO_si, ↓shO_sg, ↓shO_sr, ↓shA_si, ↓shA_sg, ↓shA_sr, ↓pAs_0, ↓pAs_i, ↓pAs_r, stk_n, stk_i, stk_l, stk_r, List.nil_append, List.cons_append, true_and, and_true, true_or, or_true, Nat.zero_add, dp_s, Nat.reduceAdd, le8_0, le8_1, le8_2, le8_3, le8_4, le8_5, le8_6, le8_7, le8_8, Classical.not_not, aT40, aT41, aT42, aT44, aT54, aT58, aT59, rT54, rT58, rT59, reduceIte, Nat.reduceEqDiff, qn_42, qn_44, true_implies, not_true_eq_false, not_false_eq_true, false_implies]
            have o35 : Rf r (fun y => y = r + 6 ∨ PMk r y) [9, 12, 14, 15] M3 M5 := (o4.mono (fun _ q => Or.inl q) (fun _ q => by cases q)).trans o5 (fun _ q => Or.inr q) (fun _ q => q)
            exact hk M8 (h3.undo o35 (fun y q => by unfold PMk PW at q; unfold PW; omega) (by decide) (h5.2.2.2.1.2.2.2.pre (ws := s.ws)) A B C o8) (rr5.trans (o8.rr (fun y hy => by unfold PU at hy; omega)) (fun _ q => q))
    exact lop m 0 M1 (by omega) Rf.rf_ (fun a ha => by omega)
