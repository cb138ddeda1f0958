/-! the reference: take -/
def PT3 (r : Nat) : Nat → Prop := fun y => y = r + 7 ∨ y = r + 8 ∨ y = r + 9
theorem e143 {d : Nat} {M : Mm} {k : mQ} {r p : Nat} {s : Ms} {mg : Bool} {fr : Nat → Option Nat} (h : RP M r s) (h23 : ∀ q, q < 48 → M.it (r + 23) q = oI (fr q)) (hfr : spOK fr) (hp : p < 128) (hm : mg = false → s.tb.length < 3) (hk : ∀ M', RP M' r (sI (nn, (p, fr) :: s.tb.take (adN mg s.tb)) s) → Rf r (PT3 r) [11] M M' → k none M') : XC (d + 1) 143 [.inr (some r), .inl (nI p), .inl (bI mg)] M k := by
  have hs := h.1
  have h3 := h.2.2.2.2.2.2.1
  have f11 : M.it r 11 = nI s.tb.length := h.2.1.1.2.2.2.2.1
  have hn2 : adN mg s.tb ≤ 2 ∧ adN mg s.tb ≤ s.tb.length := by
    unfold adN
    split
    · omega
    · rename_i c
      cases mg with
      | true => exact (c (Or.inl rfl)).elim
      | false => have := hm rfl; omega
  have hn : nI (adN mg s.tb) = if mg then 0 else nI s.tb.length := by
    unfold adN
    cases mg with
    | true => rw [if_pos (Or.inl rfl)]; rfl
    | false =>
      have := hm rfl
      rw [if_neg (fun z => z.elim (by simp) (by omega))]
      rfl
  generalize hA : adN mg s.tb = n at hn2 hn hk
  have lop3 : ∀ (m i : Nat) (M3 : Mm) (z : Option mL), i + m = 48 → Rf r (PT3 r) [11] M M3 → (∀ u, 1 ≤ u → u ≤ n → M3.it (r + 7) u = M.it (r + 7) (u - 1) ∧ ∀ q, q < 48 → M3.it (r + 9) (48 * u + q) = M.it (r + 9) (48 * (u - 1) + q)) → M3.it (r + 7) 0 = nI p → (∀ q, q < i → M3.it (r + 9) q = oI (fr q) ∧ M3.it (r + 8) q = -1) → X d 143 97 [some (.inr (some r)), some (.inl (nI p)), some (.inl (bI mg)), some (.inl (nI n)), some (.inl (nI i)), z] [] M3 k := by
    intro m
    induction m with
    | zero =>
      intro i M3 z hi o3 a a0 b
      have e : i = 48 := by omega
      subst e
      have hs3 := hs.oi o3.1
      refine vc_X 30 _ _ _ _ _ _ _ ?_
      simp only [↓v143_0, ↓v143_1, ↓v143_4, ↓v143_5, ↓v143_8, ↓v143_9, ↓v143_12, ↓v143_13, ↓v143_14, ↓v143_16, ↓v143_18, ↓v143_21, ↓v143_22, ↓v143_25, ↓v143_27, ↓v143_28, ↓v143_31, ↓v143_33, ↓v143_34, ↓v143_35, ↓v143_36, ↓v143_37, ↓v143_38, ↓v143_40, ↓v143_42, ↓v143_44, ↓v143_47, ↓v143_48, ↓v143_51, ↓v143_53, ↓v143_55, ↓v143_56, ↓v143_58, ↓v143_59, ↓v143_60, ↓v143_63, ↓v143_65, ↓v143_67, ↓v143_68, ↓v143_69, ↓v143_70, ↓v143_72, ↓v143_73, ↓v143_74, ↓v143_75, ↓v143_78, ↓v143_81, ↓v143_84, ↓v143_87, ↓v143_88, ↓v143_91, ↓v143_92, ↓v143_93, ↓v143_94, ↓v143_95, ↓v143_97, ↓v143_99, ↓v143_101, ↓v143_104, ↓v143_105, ↓v143_108, ↓v143_110, ↓v143_111, ↓v143_114, ↓v143_116, ↓v143_117, ↓v143_118, ↓v143_119, ↓v143_122, ↓v143_124, ↓v143_125, ↓v143_126, ↓v143_129, ↓v143_132, ↓v143_133, ↓v143_134, ↓v143_135, ↓v143_136, ↓v143_139, ↓qI_c, ↓qL_c, ↓qR_c, ↓pA_o, ↓qC_i, ↓qC_r, ↓oA_s, ↓gI_0, ↓gI_1, ↓gI_2, ↓gI_3, ↓gI_4, ↓gI_5, ↓gI_6, ↓gI_7, ↓gI_8, ↓gI_9, ↓gI_10, ↓gR_0, ↓gR_1, ↓gR_2, ↓gR_3, ↓gR_4, ↓gR_5, ↓gR_6, ↓gR_7, ↓gR_8, ↓gR_9, ↓gR_10, ↓sL_0, ↓sL_1, ↓sL_2, ↓sL_3, ↓sL_4, ↓sL_5, ↓sL_6, ↓sL_7, ↓sL_8, ↓sL_9, ↓sL_10, ↓rrf_si, ↓rrf_sg, ↓shO_si, ↓shO_sg, ↓shO_sr, ↓shA_si, ↓shA_sg, ↓shA_sr, ↓pAs_0, ↓pAs_i, ↓pAs_r, stk_n, stk_i, stk_l, stk_r, List.nil_append, List.cons_append, true_and, and_true, true_or, or_true, Nat.zero_add, dp_s, Nat.reduceAdd, le8_0, le8_1, le8_2, le8_3, le8_4, le8_5, le8_6, le8_7, le8_8, Classical.not_not, aT40, aT41, aT42, aT44, aT54, aT58, aT59, rT54, rT58, rT59, reduceIte, Nat.reduceEqDiff, qn_42, qn_44, true_implies, not_true_eq_false, not_false_eq_true, false_implies, le_T, T_48, nT (show 48 < 2147483648 by omega), ↓shO_of hs3.1.1, nI_1]
      refine ⟨fun _ => ?_, fun c => absurd (by decide) c⟩
      have o4 : Rf r (PT3 r) [11] M (M3.si r 11 (nI (n + 1))) := o3.fld (by simp)
      have hlen : (s.tb.take n).length = n := by rw [List.length_take]; omega
      have z : ∀ y j, y ≠ r → (M3.si r 11 (nI (n + 1))).it y j = M3.it y j := fun y j hy => by rw [si_it, if_neg (fun z => hy z.1)]
      refine hk _ (h.uI o4 (by decide) ⟨by unfold PT3; omega, by unfold PT3; omega, by unfold PT3; omega, by unfold PT3; omega, by unfold PT3; omega, by unfold PT3; omega, by unfold PT3; omega, by unfold PT3; omega, fun y y1 y2 q => by unfold PT3 at q; omega⟩ ?_ ?_ ?_ ?_ ?_) o4
      · rw [si_it, if_pos ⟨rfl, rfl⟩]
        show _ = nI ((p, fr) :: s.tb.take n).length
        rw [List.length_cons, hlen]
      · intro j v hj
        rw [z _ _ (by omega)]
        have hj : (((p, fr) :: s.tb.take n).map Prod.fst)[j]? = some v := hj
        cases j with
        | zero =>
          rw [List.map_cons, List.getElem?_cons_zero] at hj
          cases hj
          exact a0
        | succ j =>
          rw [List.map_cons, List.getElem?_cons_succ] at hj
          have hjl := (List.getElem?_eq_some_iff.mp hj).1
          rw [List.length_map, hlen] at hjl
          rw [(a (j + 1) (by omega) (by omega)).1, Nat.add_sub_cancel]
          rw [List.map_take, List.getElem?_take, if_pos hjl] at hj
          exact h.2.2.2.1.1 j v hj
      · intro q hq
        rw [z _ _ (by omega), (b q hq).2]
        rfl
      · intro t z2 q hz hq
        rw [z _ _ (by omega)]
        have hz : ((p, fr) :: s.tb.take n)[t]? = some z2 := hz
        cases t with
        | zero =>
          rw [List.getElem?_cons_zero] at hz
          cases hz
          rw [Nat.mul_zero, Nat.zero_add]
          exact (b q hq).1
        | succ t =>
          rw [List.getElem?_cons_succ] at hz
          have hjl := (List.getElem?_eq_some_iff.mp hz).1
          rw [hlen] at hjl
          rw [(a (t + 1) (by omega) (by omega)).2 q hq, Nat.add_sub_cancel]
          rw [List.getElem?_take, if_pos hjl] at hz
          exact h.2.2.2.1.2.2.1 t z2 q hz hq
      · refine ⟨fun q v _ hv => (by cases hv), ?_, fun z2 hz => ?_, h.2.2.2.2.2.2.2.2⟩
        · show ((p, fr) :: s.tb.take n).length ≤ 3
          rw [List.length_cons, hlen]
          omega
        · have hz : z2 ∈ (p, fr) :: s.tb.take n := hz
          rcases List.mem_cons.mp hz with hz | hz
          · rw [hz]
            exact ⟨hfr, hp⟩
          · exact h.2.2.2.2.2.2.2.1 z2 (List.mem_of_mem_take hz)
    | succ m ih =>
      intro i M3 z hi o3 a a0 b
      have hs3 := hs.oi o3.1
      have g23 : M3.it (r + 23) i = oI (fr i) := by rw [o3.at_ (by omega) (by unfold PT3; omega)]; exact h23 i (by omega)
      generalize hM4 : M3.si (r + 9) i (oI (fr i)) = M4
      refine vc_X 40 _ _ _ _ _ _ _ ?_
      simp only [↓v143_0, ↓v143_1, ↓v143_4, ↓v143_5, ↓v143_8, ↓v143_9, ↓v143_12, ↓v143_13, ↓v143_14, ↓v143_16, ↓v143_18, ↓v143_21, ↓v143_22, ↓v143_25, ↓v143_27, ↓v143_28, ↓v143_31, ↓v143_33, ↓v143_34, ↓v143_35, ↓v143_36, ↓v143_37, ↓v143_38, ↓v143_40, ↓v143_42, ↓v143_44, ↓v143_47, ↓v143_48, ↓v143_51, ↓v143_53, ↓v143_55, ↓v143_56, ↓v143_58, ↓v143_59, ↓v143_60, ↓v143_63, ↓v143_65, ↓v143_67, ↓v143_68, ↓v143_69, ↓v143_70, ↓v143_72, ↓v143_73, ↓v143_74, ↓v143_75, ↓v143_78, ↓v143_81, ↓v143_84, ↓v143_87, ↓v143_88, ↓v143_91, ↓v143_92, ↓v143_93, ↓v143_94, ↓v143_95, ↓v143_97, ↓v143_99, ↓v143_101, ↓v143_104, ↓v143_105, ↓v143_108, ↓v143_110, ↓v143_111, ↓v143_114, ↓v143_116, ↓v143_117, ↓v143_118, ↓v143_119, ↓v143_122, ↓v143_124, ↓v143_125, ↓v143_126, ↓v143_129, ↓v143_132, ↓v143_133, ↓v143_134, ↓v143_135, ↓v143_136, ↓v143_139, ↓qI_c, ↓qL_c, ↓qR_c, ↓pA_o, ↓qC_i, ↓qC_r, ↓oA_s, ↓gI_0, ↓gI_1, ↓gI_2, ↓gI_3, ↓gI_4, ↓gI_5, ↓gI_6, ↓gI_7, ↓gI_8, ↓gI_9, ↓gI_10, ↓gR_0, ↓gR_1, ↓gR_2, ↓gR_3, ↓gR_4, ↓gR_5, ↓gR_6, ↓gR_7, ↓gR_8, ↓gR_9, ↓gR_10, ↓sL_0, ↓sL_1, ↓sL_2, ↓sL_3, ↓sL_4, ↓sL_5, ↓sL_6, ↓sL_7, ↓sL_8, ↓sL_9, ↓sL_10, ↓rrf_si, ↓rrf_sg, ↓shO_si, ↓shO_sg, ↓shO_sr, ↓shA_si, ↓shA_sg, ↓shA_sr, ↓pAs_0, ↓pAs_i, ↓pAs_r, stk_n, stk_i, stk_l, stk_r, List.nil_append, List.cons_append, true_and, and_true, true_or, or_true, Nat.zero_add, dp_s, Nat.reduceAdd, le8_0, le8_1, le8_2, le8_3, le8_4, le8_5, le8_6, le8_7, le8_8, Classical.not_not, aT40, aT41, aT42, aT44, aT54, aT58, aT59, rT54, rT58, rT59, reduceIte, Nat.reduceEqDiff, qn_42, qn_44, true_implies, not_true_eq_false, not_false_eq_true, false_implies, le_T, T_48, nT (show i < 2147483648 by omega), ↓shO_of hs3.1.1, ↓rrf_of hs3.2.1.2.2.1, ↓shA_of hs3.2.2.2.2.1.1, ↓rrf_of hs3.2.2.1.2.2.2.2.2.2.2.2, ↓shA_of hs3.2.2.2.2.2.2.2.2.2.2.2, nC (show i < 2147483648 by omega), g23, hM4, ↓rrf_of hs3.2.1.2.1, ↓shA_of hs3.2.2.2.1.2.2.2.2.2.2.2, nI_1]
      refine ⟨fun c => by omega, fun _ => ⟨inB_n (by omega) (by omega), inB_n (by omega) (by omega), inB_n (by omega) (by omega), ?_⟩⟩
      have o4 : Rf r (PT3 r) [11] M M4 := by rw [← hM4]; exact o3.row (Or.inr (Or.inr rfl)) (by omega)
      refine ih (i + 1) _ _ (by omega) (o4.row (Or.inr (Or.inl rfl)) (by omega)) (fun u u1 u2 => ⟨?_, fun q hq => ?_⟩) ?_ (fun q hq => ?_)
      · rw [si_it, if_neg (by omega), ← hM4, si_it, if_neg (by omega)]; exact (a u u1 u2).1
      · rw [si_it, if_neg (by omega), ← hM4, si_it, if_neg (fun z => by omega)]; exact (a u u1 u2).2 q hq
      · rw [si_it, if_neg (by omega), ← hM4, si_it, if_neg (by omega)]; exact a0
      · rw [si_it, if_neg (by omega), ← hM4, si_it]
        by_cases cq : q = i
        · subst cq
          rw [if_pos ⟨rfl, rfl⟩, si_it, if_pos ⟨rfl, rfl⟩]
          exact ⟨rfl, rfl⟩
        · rw [if_neg (fun z => cq z.2), si_it, if_neg (fun z => cq z.2), si_it, if_neg (by omega)]
          exact b q (by omega)
  have lop1 : ∀ (m t : Nat) (M1 : Mm) (z : Option mL), t = m → t ≤ n → Rf r (PT3 r) [11] M M1 → (∀ u, t < u → u ≤ n → M1.it (r + 7) u = M.it (r + 7) (u - 1) ∧ ∀ q, q < 48 → M1.it (r + 9) (48 * u + q) = M.it (r + 9) (48 * (u - 1) + q)) → (∀ u, u ≤ t → M1.it (r + 7) u = M.it (r + 7) u ∧ ∀ q, q < 48 → M1.it (r + 9) (48 * u + q) = M.it (r + 9) (48 * u + q)) → X d 143 16 [some (.inr (some r)), some (.inl (nI p)), some (.inl (bI mg)), some (.inl (nI n)), some (.inl (nI t)), z] [] M1 k := by
    intro m
    induction m with
    | zero =>
      intro t M1 z ht htn o1 a b
      subst ht
      have hs1 := hs.oi o1.1
      refine vc_X 30 _ _ _ _ _ _ _ ?_
      simp only [↓v143_0, ↓v143_1, ↓v143_4, ↓v143_5, ↓v143_8, ↓v143_9, ↓v143_12, ↓v143_13, ↓v143_14, ↓v143_16, ↓v143_18, ↓v143_21, ↓v143_22, ↓v143_25, ↓v143_27, ↓v143_28, ↓v143_31, ↓v143_33, ↓v143_34, ↓v143_35, ↓v143_36, ↓v143_37, ↓v143_38, ↓v143_40, ↓v143_42, ↓v143_44, ↓v143_47, ↓v143_48, ↓v143_51, ↓v143_53, ↓v143_55, ↓v143_56, ↓v143_58, ↓v143_59, ↓v143_60, ↓v143_63, ↓v143_65, ↓v143_67, ↓v143_68, ↓v143_69, ↓v143_70, ↓v143_72, ↓v143_73, ↓v143_74, ↓v143_75, ↓v143_78, ↓v143_81, ↓v143_84, ↓v143_87, ↓v143_88, ↓v143_91, ↓v143_92, ↓v143_93, ↓v143_94, ↓v143_95, ↓v143_97, ↓v143_99, ↓v143_101, ↓v143_104, ↓v143_105, ↓v143_108, ↓v143_110, ↓v143_111, ↓v143_114, ↓v143_116, ↓v143_117, ↓v143_118, ↓v143_119, ↓v143_122, ↓v143_124, ↓v143_125, ↓v143_126, ↓v143_129, ↓v143_132, ↓v143_133, ↓v143_134, ↓v143_135, ↓v143_136, ↓v143_139, ↓qI_c, ↓qL_c, ↓qR_c, ↓pA_o, ↓qC_i, ↓qC_r, ↓oA_s, ↓gI_0, ↓gI_1, ↓gI_2, ↓gI_3, ↓gI_4, ↓gI_5, ↓gI_6, ↓gI_7, ↓gI_8, ↓gI_9, ↓gI_10, ↓gR_0, ↓gR_1, ↓gR_2, ↓gR_3, ↓gR_4, ↓gR_5, ↓gR_6, ↓gR_7, ↓gR_8, ↓gR_9, ↓gR_10, ↓sL_0, ↓sL_1, ↓sL_2, ↓sL_3, ↓sL_4, ↓sL_5, ↓sL_6, ↓sL_7, ↓sL_8, ↓sL_9, ↓sL_10, ↓rrf_si, ↓rrf_sg, ↓shO_si, ↓shO_sg, ↓shO_sr, ↓shA_si, ↓shA_sg, ↓shA_sr, ↓pAs_0, ↓pAs_i, ↓pAs_r, stk_n, stk_i, stk_l, stk_r, List.nil_append, List.cons_append, true_and, and_true, true_or, or_true, Nat.zero_add, dp_s, Nat.reduceAdd, le8_0, le8_1, le8_2, le8_3, le8_4, le8_5, le8_6, le8_7, le8_8, Classical.not_not, aT40, aT41, aT42, aT44, aT54, aT58, aT59, rT54, rT58, rT59, reduceIte, Nat.reduceEqDiff, qn_42, qn_44, true_implies, not_true_eq_false, not_false_eq_true, false_implies, le_T, T_0, nT (show 0 < 2147483648 by omega), ↓shO_of hs1.1.1, ↓rrf_of hs1.2.1.1, ↓shA_of hs1.2.2.2.1.2.2.2.2.2.2.1]
      refine ⟨fun _ => ⟨show inB (nI 0) 6 from inB_n (by omega) (by omega), ?_⟩, fun c => absurd (by decide) c⟩
      refine lop3 48 0 _ z (by omega) (o1.row (Or.inl rfl) (by omega)) (fun u u1 u2 => ⟨?_, fun q hq => ?_⟩) ?_ (fun q hq => by omega)
      · rw [si_it, if_neg (fun z => absurd z.2 (by show u ≠ 0; omega))]; exact (a u (by omega) u2).1
      · rw [si_it, if_neg (by omega)]; exact (a u (by omega) u2).2 q hq
      · rw [si_it, if_pos ⟨rfl, rfl⟩]
    | succ m ih =>
      intro t M1 z ht htn o1 a b
      subst ht
      have hs1 := hs.oi o1.1
      have em : nI (m + 1) - 1 = nI m := nI_pred m
      have g7 : M1.it (r + 7) m = M.it (r + 7) m := (b m (by omega)).1
      generalize hM2 : M1.si (r + 7) (m + 1) (M1.it (r + 7) m) = M2
      have o2 : Rf r (PT3 r) [11] M M2 := by rw [← hM2]; exact o1.row (Or.inl rfl) (by omega)
      have lop2 : ∀ (m2 i : Nat) (M3 : Mm), i + m2 = 48 → Rf r (· = r + 9) [] M2 M3 → (∀ j, (j < 48 * (m + 1) ∨ 48 * (m + 1) + 48 ≤ j) → M3.it (r + 9) j = M2.it (r + 9) j) → (∀ q, q < i → M3.it (r + 9) (48 * (m + 1) + q) = M.it (r + 9) (48 * m + q)) → X d 143 40 [some (.inr (some r)), some (.inl (nI p)), some (.inl (bI mg)), some (.inl (nI n)), some (.inl (nI (m + 1))), some (.inl (nI i))] [] M3 k := by
        intro m2
        induction m2 with
        | zero =>
          intro i M3 hi o3 c1 c2
          have e : i = 48 := by omega
          subst e
          have o03 : Rf r (PT3 r) [11] M M3 := o2.trans o3 (fun y q => Or.inr (Or.inr q)) (fun _ q => by cases q)
          have em1 : nI (m + 1) + -1 = nI m := by
            rw [← nI_1 m, Int32.add_assoc, show (1 : Int32) + -1 = 0 from by decide, Int32.add_zero]
          refine vc_X 30 _ _ _ _ _ _ _ ?_
          simp only [↓v143_0, ↓v143_1, ↓v143_4, ↓v143_5, ↓v143_8, ↓v143_9, ↓v143_12, ↓v143_13, ↓v143_14, ↓v143_16, ↓v143_18, ↓v143_21, ↓v143_22, ↓v143_25, ↓v143_27, ↓v143_28, ↓v143_31, ↓v143_33, ↓v143_34, ↓v143_35, ↓v143_36, ↓v143_37, ↓v143_38, ↓v143_40, ↓v143_42, ↓v143_44, ↓v143_47, ↓v143_48, ↓v143_51, ↓v143_53, ↓v143_55, ↓v143_56, ↓v143_58, ↓v143_59, ↓v143_60, ↓v143_63, ↓v143_65, ↓v143_67, ↓v143_68, ↓v143_69, ↓v143_70, ↓v143_72, ↓v143_73, ↓v143_74, ↓v143_75, ↓v143_78, ↓v143_81, ↓v143_84, ↓v143_87, ↓v143_88, ↓v143_91, ↓v143_92, ↓v143_93, ↓v143_94, ↓v143_95, ↓v143_97, ↓v143_99, ↓v143_101, ↓v143_104, ↓v143_105, ↓v143_108, ↓v143_110, ↓v143_111, ↓v143_114, ↓v143_116, ↓v143_117, ↓v143_118, ↓v143_119, ↓v143_122, ↓v143_124, ↓v143_125, ↓v143_126, ↓v143_129, ↓v143_132, ↓v143_133, ↓v143_134, ↓v143_135, ↓v143_136, ↓v143_139, ↓qI_c, ↓qL_c, ↓qR_c, ↓pA_o, ↓qC_i, ↓qC_r, ↓oA_s, ↓gI_0, ↓gI_1, ↓gI_2, ↓gI_3, ↓gI_4, ↓gI_5, ↓gI_6, ↓gI_7, ↓gI_8, ↓gI_9, ↓gI_10, ↓gR_0, ↓gR_1, ↓gR_2, ↓gR_3, ↓gR_4, ↓gR_5, ↓gR_6, ↓gR_7, ↓gR_8, ↓gR_9, ↓gR_10, ↓sL_0, ↓sL_1, ↓sL_2, ↓sL_3, ↓sL_4, ↓sL_5, ↓sL_6, ↓sL_7, ↓sL_8, ↓sL_9, ↓sL_10, ↓rrf_si, ↓rrf_sg, ↓shO_si, ↓shO_sg, ↓shO_sr, ↓shA_si, ↓shA_sg, ↓shA_sr, ↓pAs_0, ↓pAs_i, ↓pAs_r, stk_n, stk_i, stk_l, stk_r, List.nil_append, List.cons_append, true_and, and_true, true_or, or_true, Nat.zero_add, dp_s, Nat.reduceAdd, le8_0, le8_1, le8_2, le8_3, le8_4, le8_5, le8_6, le8_7, le8_8, Classical.not_not, aT40, aT41, aT42, aT44, aT54, aT58, aT59, rT54, rT58, rT59, reduceIte, Nat.reduceEqDiff, qn_42, qn_44, true_implies, not_true_eq_false, not_false_eq_true, false_implies, le_T, T_48, nT (show 48 < 2147483648 by omega), em1]
          refine ⟨fun _ => ?_, fun c => absurd (by decide) c⟩
          refine ih m M3 _ rfl (by omega) o03 (fun u u1 u2 => ?_) (fun u u1 => ?_)
          · by_cases cu : u = m + 1
            · subst cu
              refine ⟨?_, fun q hq => c2 q hq⟩
              rw [o3.at_ (by omega) (by omega), ← hM2, si_it, if_pos ⟨rfl, rfl⟩]
              exact g7
            · have au := a u (by omega) u2
              refine ⟨?_, fun q hq => ?_⟩
              · rw [o3.at_ (by omega) (by omega), ← hM2, si_it, if_neg (fun z => cu z.2)]
                exact au.1
              · rw [c1 _ (by omega), ← hM2, si_it, if_neg (by omega)]
                exact au.2 q hq
          · have bu := b u (by omega)
            refine ⟨?_, fun q hq => ?_⟩
            · rw [o3.at_ (by omega) (by omega), ← hM2, si_it, if_neg (by omega)]
              exact bu.1
            · rw [c1 _ (by omega), ← hM2, si_it, if_neg (by omega)]
              exact bu.2 q hq
        | succ m2 ih2 =>
          intro i M3 hi o3 c1 c2
          have hs3 := (hs.oi o2.1).oi o3.1
          have e1 : (48 : Int32) * nI (m + 1) + nI i = nI (48 * (m + 1) + i) := by rw [n_48, pk_mul, nI_add]
          have e2 : (48 : Int32) * nI m + nI i = nI (48 * m + i) := by rw [n_48, pk_mul, nI_add]
          refine vc_X 40 _ _ _ _ _ _ _ ?_
          simp only [↓v143_0, ↓v143_1, ↓v143_4, ↓v143_5, ↓v143_8, ↓v143_9, ↓v143_12, ↓v143_13, ↓v143_14, ↓v143_16, ↓v143_18, ↓v143_21, ↓v143_22, ↓v143_25, ↓v143_27, ↓v143_28, ↓v143_31, ↓v143_33, ↓v143_34, ↓v143_35, ↓v143_36, ↓v143_37, ↓v143_38, ↓v143_40, ↓v143_42, ↓v143_44, ↓v143_47, ↓v143_48, ↓v143_51, ↓v143_53, ↓v143_55, ↓v143_56, ↓v143_58, ↓v143_59, ↓v143_60, ↓v143_63, ↓v143_65, ↓v143_67, ↓v143_68, ↓v143_69, ↓v143_70, ↓v143_72, ↓v143_73, ↓v143_74, ↓v143_75, ↓v143_78, ↓v143_81, ↓v143_84, ↓v143_87, ↓v143_88, ↓v143_91, ↓v143_92, ↓v143_93, ↓v143_94, ↓v143_95, ↓v143_97, ↓v143_99, ↓v143_101, ↓v143_104, ↓v143_105, ↓v143_108, ↓v143_110, ↓v143_111, ↓v143_114, ↓v143_116, ↓v143_117, ↓v143_118, ↓v143_119, ↓v143_122, ↓v143_124, ↓v143_125, ↓v143_126, ↓v143_129, ↓v143_132, ↓v143_133, ↓v143_134, ↓v143_135, ↓v143_136, ↓v143_139, ↓qI_c, ↓qL_c, ↓qR_c, ↓pA_o, ↓qC_i, ↓qC_r, ↓oA_s, ↓gI_0, ↓gI_1, ↓gI_2, ↓gI_3, ↓gI_4, ↓gI_5, ↓gI_6, ↓gI_7, ↓gI_8, ↓gI_9, ↓gI_10, ↓gR_0, ↓gR_1, ↓gR_2, ↓gR_3, ↓gR_4, ↓gR_5, ↓gR_6, ↓gR_7, ↓gR_8, ↓gR_9, ↓gR_10, ↓sL_0, ↓sL_1, ↓sL_2, ↓sL_3, ↓sL_4, ↓sL_5, ↓sL_6, ↓sL_7, ↓sL_8, ↓sL_9, ↓sL_10, ↓rrf_si, ↓rrf_sg, ↓shO_si, ↓shO_sg, ↓shO_sr, ↓shA_si, ↓shA_sg, ↓shA_sr, ↓pAs_0, ↓pAs_i, ↓pAs_r, stk_n, stk_i, stk_l, stk_r, List.nil_append, List.cons_append, true_and, and_true, true_or, or_true, Nat.zero_add, dp_s, Nat.reduceAdd, le8_0, le8_1, le8_2, le8_3, le8_4, le8_5, le8_6, le8_7, le8_8, Classical.not_not, aT40, aT41, aT42, aT44, aT54, aT58, aT59, rT54, rT58, rT59, reduceIte, Nat.reduceEqDiff, qn_42, qn_44, true_implies, not_true_eq_false, not_false_eq_true, false_implies, le_T, T_48, nT (show i < 2147483648 by omega), ↓shO_of hs3.1.1, ↓rrf_of hs3.2.1.2.2.1, ↓shA_of hs3.2.2.2.2.1.1, em, e1, e2, nC (show 48 * (m + 1) + i < 2147483648 by omega), nC (show 48 * m + i < 2147483648 by omega), nI_1]
          refine ⟨fun c => by omega, fun _ => ⟨inB_n (by omega) (by omega), inB_n (by omega) (by omega), ?_⟩⟩
          refine ih2 (i + 1) _ (by omega) (o3.row rfl (by omega)) (fun j hj => by rw [si_it, if_neg (fun z => by omega)]; exact c1 j hj) (fun q hq => ?_)
          by_cases cq : q = i
          · subst cq
            rw [si_it, if_pos ⟨rfl, rfl⟩, c1 _ (by omega), ← hM2, si_it, if_neg (by omega)]
            exact (b m (by omega)).2 q (by omega)
          · rw [si_it, if_neg (fun z => by omega)]
            exact c2 q (by omega)
      refine vc_X 30 _ _ _ _ _ _ _ ?_
      simp only [↓v143_0, ↓v143_1, ↓v143_4, ↓v143_5, ↓v143_8, ↓v143_9, ↓v143_12, ↓v143_13, ↓v143_14, ↓v143_16, ↓v143_18, ↓v143_21, ↓v143_22, ↓v143_25, ↓v143_27, ↓v143_28, ↓v143_31, ↓v143_33, ↓v143_34, ↓v143_35, ↓v143_36, ↓v143_37, ↓v143_38, ↓v143_40, ↓v143_42, ↓v143_44, ↓v143_47, ↓v143_48, ↓v143_51, ↓v143_53, ↓v143_55, ↓v143_56, ↓v143_58, ↓v143_59, ↓v143_60, ↓v143_63, ↓v143_65, ↓v143_67, ↓v143_68, ↓v143_69, ↓v143_70, ↓v143_72, ↓v143_73, ↓v143_74, ↓v143_75, ↓v143_78, ↓v143_81, ↓v143_84, ↓v143_87, ↓v143_88, ↓v143_91, ↓v143_92, ↓v143_93, ↓v143_94, ↓v143_95, ↓v143_97, ↓v143_99, ↓v143_101, ↓v143_104, ↓v143_105, ↓v143_108, ↓v143_110, ↓v143_111, ↓v143_114, ↓v143_116, ↓v143_117, ↓v143_118, ↓v143_119, ↓v143_122, ↓v143_124, ↓v143_125, ↓v143_126, ↓v143_129, ↓v143_132, ↓v143_133, ↓v143_134, ↓v143_135, ↓v143_136, ↓v143_139, ↓qI_c, ↓qL_c, ↓qR_c, ↓pA_o, ↓qC_i, ↓qC_r, ↓oA_s, ↓gI_0, ↓gI_1, ↓gI_2, ↓gI_3, ↓gI_4, ↓gI_5, ↓gI_6, ↓gI_7, ↓gI_8, ↓gI_9, ↓gI_10, ↓gR_0, ↓gR_1, ↓gR_2, ↓gR_3, ↓gR_4, ↓gR_5, ↓gR_6, ↓gR_7, ↓gR_8, ↓gR_9, ↓gR_10, ↓sL_0, ↓sL_1, ↓sL_2, ↓sL_3, ↓sL_4, ↓sL_5, ↓sL_6, ↓sL_7, ↓sL_8, ↓sL_9, ↓sL_10, ↓rrf_si, ↓rrf_sg, ↓shO_si, ↓shO_sg, ↓shO_sr, ↓shA_si, ↓shA_sg, ↓shA_sr, ↓pAs_0, ↓pAs_i, ↓pAs_r, stk_n, stk_i, stk_l, stk_r, List.nil_append, List.cons_append, true_and, and_true, true_or, or_true, Nat.zero_add, dp_s, Nat.reduceAdd, le8_0, le8_1, le8_2, le8_3, le8_4, le8_5, le8_6, le8_7, le8_8, Classical.not_not, aT40, aT41, aT42, aT44, aT54, aT58, aT59, rT54, rT58, rT59, reduceIte, Nat.reduceEqDiff, qn_42, qn_44, true_implies, not_true_eq_false, not_false_eq_true, false_implies, le_T, T_0, nT (show m + 1 < 2147483648 by omega), ↓shO_of hs1.1.1, ↓rrf_of hs1.2.1.1, ↓shA_of hs1.2.2.2.1.2.2.2.2.2.2.1, em, nC (show m < 2147483648 by omega), nC (show m + 1 < 2147483648 by omega), hM2]
      refine ⟨fun c => by omega, fun _ => ⟨inB_n (by omega) (by omega), inB_n (by omega) (by omega), ?_⟩⟩
      exact lop2 48 0 M2 (by omega) Rf.rf_ (fun _ _ => rfl) (fun q hq => by omega)
  refine xc ?_
  show X d 143 0 [some (.inr (some r)), some (.inl (nI p)), some (.inl (bI mg)), none, none, none] [] M k
  cases mg with
  | true =>
    refine vc_X 20 _ _ _ _ _ _ _ ?_
    simp only [↓v143_0, ↓v143_1, ↓v143_4, ↓v143_5, ↓v143_8, ↓v143_9, ↓v143_12, ↓v143_13, ↓v143_14, ↓v143_16, ↓v143_18, ↓v143_21, ↓v143_22, ↓v143_25, ↓v143_27, ↓v143_28, ↓v143_31, ↓v143_33, ↓v143_34, ↓v143_35, ↓v143_36, ↓v143_37, ↓v143_38, ↓v143_40, ↓v143_42, ↓v143_44, ↓v143_47, ↓v143_48, ↓v143_51, ↓v143_53, ↓v143_55, ↓v143_56, ↓v143_58, ↓v143_59, ↓v143_60, ↓v143_63, ↓v143_65, ↓v143_67, ↓v143_68, ↓v143_69, ↓v143_70, ↓v143_72, ↓v143_73, ↓v143_74, ↓v143_75, ↓v143_78, ↓v143_81, ↓v143_84, ↓v143_87, ↓v143_88, ↓v143_91, ↓v143_92, ↓v143_93, ↓v143_94, ↓v143_95, ↓v143_97, ↓v143_99, ↓v143_101, ↓v143_104, ↓v143_105, ↓v143_108, ↓v143_110, ↓v143_111, ↓v143_114, ↓v143_116, ↓v143_117, ↓v143_118, ↓v143_119, ↓v143_122, ↓v143_124, ↓v143_125, ↓v143_126, ↓v143_129, ↓v143_132, ↓v143_133, ↓v143_134, ↓v143_135, ↓v143_136, ↓v143_139, ↓qI_c, ↓qL_c, ↓qR_c, ↓pA_o, ↓qC_i, ↓qC_r, ↓oA_s, ↓gI_0, ↓gI_1, ↓gI_2, ↓gI_3, ↓gI_4, ↓gI_5, ↓gI_6, ↓gI_7, ↓gI_8, ↓gI_9, ↓gI_10, ↓gR_0, ↓gR_1, ↓gR_2, ↓gR_3, ↓gR_4, ↓gR_5, ↓gR_6, ↓gR_7, ↓gR_8, ↓gR_9, ↓gR_10, ↓sL_0, ↓sL_1, ↓sL_2, ↓sL_3, ↓sL_4, ↓sL_5, ↓sL_6, ↓sL_7, ↓sL_8, ↓sL_9, ↓sL_10, ↓rrf_si, ↓rrf_sg, ↓shO_si, ↓shO_sg, ↓shO_sr, ↓shA_si, ↓shA_sg, ↓shA_sr, ↓pAs_0, ↓pAs_i, ↓pAs_r, stk_n, stk_i, stk_l, stk_r, List.nil_append, List.cons_append, true_and, and_true, true_or, or_true, Nat.zero_add, dp_s, Nat.reduceAdd, le8_0, le8_1, le8_2, le8_3, le8_4, le8_5, le8_6, le8_7, le8_8, Classical.not_not, aT40, aT41, aT42, aT44, aT54, aT58, aT59, rT54, rT58, rT59, reduceIte, Nat.reduceEqDiff, qn_42, qn_44, true_implies, not_true_eq_false, not_false_eq_true, false_implies, bI_t, i10]
    have go := lop1 n n M none rfl (Nat.le_refl _) Rf.rf_ (fun u u1 u2 => by omega) (fun u _ => ⟨rfl, fun _ _ => rfl⟩)
    rw [hn] at go
    exact go
  | false =>
    refine vc_X 20 _ _ _ _ _ _ _ ?_
    simp only [↓v143_0, ↓v143_1, ↓v143_4, ↓v143_5, ↓v143_8, ↓v143_9, ↓v143_12, ↓v143_13, ↓v143_14, ↓v143_16, ↓v143_18, ↓v143_21, ↓v143_22, ↓v143_25, ↓v143_27, ↓v143_28, ↓v143_31, ↓v143_33, ↓v143_34, ↓v143_35, ↓v143_36, ↓v143_37, ↓v143_38, ↓v143_40, ↓v143_42, ↓v143_44, ↓v143_47, ↓v143_48, ↓v143_51, ↓v143_53, ↓v143_55, ↓v143_56, ↓v143_58, ↓v143_59, ↓v143_60, ↓v143_63, ↓v143_65, ↓v143_67, ↓v143_68, ↓v143_69, ↓v143_70, ↓v143_72, ↓v143_73, ↓v143_74, ↓v143_75, ↓v143_78, ↓v143_81, ↓v143_84, ↓v143_87, ↓v143_88, ↓v143_91, ↓v143_92, ↓v143_93, ↓v143_94, ↓v143_95, ↓v143_97, ↓v143_99, ↓v143_101, ↓v143_104, ↓v143_105, ↓v143_108, ↓v143_110, ↓v143_111, ↓v143_114, ↓v143_116, ↓v143_117, ↓v143_118, ↓v143_119, ↓v143_122, ↓v143_124, ↓v143_125, ↓v143_126, ↓v143_129, ↓v143_132, ↓v143_133, ↓v143_134, ↓v143_135, ↓v143_136, ↓v143_139, ↓qI_c, ↓qL_c, ↓qR_c, ↓pA_o, ↓qC_i, ↓qC_r, ↓oA_s, ↓gI_0, ↓gI_1, ↓gI_2, ↓gI_3, ↓gI_4, ↓gI_5, ↓gI_6, ↓gI_7, ↓gI_8, ↓gI_9, ↓gI_10, ↓gR_0, ↓gR_1, ↓gR_2, ↓gR_3, ↓gR_4, ↓gR_5, ↓gR_6, ↓gR_7, ↓gR_8, ↓gR_9, ↓gR_10, ↓sL_0, ↓sL_1, ↓sL_2, ↓sL_3, ↓sL_4, ↓sL_5, ↓sL_6, ↓sL_7, ↓sL_8, ↓sL_9, ↓sL_10, ↓rrf_si, ↓rrf_sg, ↓shO_si, ↓shO_sg, ↓shO_sr, ↓shA_si, ↓shA_sg, ↓shA_sr, ↓pAs_0, ↓pAs_i, ↓pAs_r, stk_n, stk_i, stk_l, stk_r, List.nil_append, List.cons_append, true_and, and_true, true_or, or_true, Nat.zero_add, dp_s, Nat.reduceAdd, le8_0, le8_1, le8_2, le8_3, le8_4, le8_5, le8_6, le8_7, le8_8, Classical.not_not, aT40, aT41, aT42, aT44, aT54, aT58, aT59, rT54, rT58, rT59, reduceIte, Nat.reduceEqDiff, qn_42, qn_44, true_implies, not_true_eq_false, not_false_eq_true, false_implies, bI_f, i00, ↓shO_of hs.1.1, f11]
    have go := lop1 n n M none rfl (Nat.le_refl _) Rf.rf_ (fun u u1 u2 => by omega) (fun u _ => ⟨rfl, fun _ _ => rfl⟩)
    rw [hn] at go
    exact go
