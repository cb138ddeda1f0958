/-! the reference: writer, needs, make -/
theorem e125 {d : Nat} {M : Mm} {k : mQ} {r n md : Nat} (hs : RS M r) (h14 : M.it r 14 = nI n) (h15 : M.it r 15 = nI md) (hn : n < 160) (hk : ∀ M', M'.it r 14 = nI (n + 1) → M'.it r 15 = nI (md + 1) → M'.it (r + 10) n = nI md → M'.it (r + 12) n = nI 0 → Rf r (fun y => y = r + 10 ∨ y = r + 12) [14, 15] M M' → (∀ j, j ≠ n → M'.it (r + 10) j = M.it (r + 10) j ∧ M'.it (r + 12) j = M.it (r + 12) j) → k (some (.inl (nI n))) M') : XC (d + 1) 125 [.inr (some r)] M k := by
  refine xc ?_
  show X d 125 0 [some (.inr (some r))] [] M k
  generalize hM1 : M.si (r + 10) n (nI md) = M1
  have o1 : Rf r (fun y => y = r + 10 ∨ y = r + 12) [14, 15] M M1 := by rw [← hM1]; exact Rf.rf_.row (Or.inl rfl) (by omega)
  have g14 : M1.it r 14 = nI n := by rw [← hM1, si_it, if_neg (by omega)]; exact h14
  have g15 : M1.it r 15 = nI md := by rw [← hM1, si_it, if_neg (by omega)]; exact h15
  generalize hM2 : M1.si (r + 12) n 0 = M2
  have o2 : Rf r (fun y => y = r + 10 ∨ y = r + 12) [14, 15] M M2 := by rw [← hM2]; exact o1.row (Or.inr rfl) (by omega)
  have k14 : M2.it r 14 = nI n := by rw [← hM2, si_it, if_neg (by omega)]; exact g14
  have k15 : M2.it r 15 = nI md := by rw [← hM2, si_it, if_neg (by omega)]; exact g15
  generalize hM3 : M2.si r 14 (nI (n + 1)) = M3
  have l15 : M3.it r 15 = nI md := by rw [← hM3, si_it, if_neg (by simp)]; exact k15
  generalize hM4 : M3.si r 15 (nI (md + 1)) = M4
  have l14 : M4.it r 14 = nI (n + 1) := by rw [← hM4, si_it, if_neg (by simp), ← hM3, si_it, if_pos ⟨rfl, rfl⟩]
  have e1 : nI (n + 1) - 1 = nI n := nI_pred n
  refine vc_X 40 _ _ _ _ _ _ _ ?_
  simp only [↓v125_0, ↓v125_1, ↓v125_4, ↓v125_5, ↓v125_8, ↓v125_9, ↓v125_12, ↓v125_13, ↓v125_14, ↓v125_17, ↓v125_18, ↓v125_21, ↓v125_22, ↓v125_23, ↓v125_24, ↓v125_25, ↓v125_28, ↓v125_29, ↓v125_30, ↓v125_33, ↓v125_34, ↓v125_35, ↓v125_38, ↓v125_39, ↓v125_40, ↓v125_43, ↓v125_44, ↓v125_47, ↓v125_48, ↓v125_49, ↓qI_c, ↓qL_c, ↓qR_c, ↓pA_o, ↓qC_i, ↓qC_r, ↓oA_s, ↓gI_0, ↓gI_1, ↓gI_2, ↓gI_3, ↓gI_4, ↓gI_5, ↓gI_6, ↓gI_7, ↓gI_8, ↓gI_9, ↓gI_10, ↓gR_0, ↓gR_1, ↓gR_2, ↓gR_3, ↓gR_4, ↓gR_5, ↓gR_6, ↓gR_7, ↓gR_8, ↓gR_9, ↓gR_10, ↓sL_0, ↓sL_1, ↓sL_2, ↓sL_3, ↓sL_4, ↓sL_5, ↓sL_6, ↓sL_7, ↓sL_8, ↓sL_9, ↓sL_10, ↓rrf_si, ↓rrf_sg, ↓shO_si, ↓shO_sg, ↓shO_sr, ↓shA_si, ↓shA_sg, ↓shA_sr, ↓pAs_0, ↓pAs_i, ↓pAs_r, stk_n, stk_i, stk_l, stk_r, List.nil_append, List.cons_append, true_and, and_true, true_or, or_true, Nat.zero_add, dp_s, Nat.reduceAdd, le8_0, le8_1, le8_2, le8_3, le8_4, le8_5, le8_6, le8_7, le8_8, Classical.not_not, aT40, aT41, aT42, aT44, aT54, aT58, aT59, rT54, rT58, rT59, reduceIte, Nat.reduceEqDiff, qn_42, qn_44, true_implies, not_true_eq_false, not_false_eq_true, false_implies, ↓shO_of hs.1.1, ↓rrf_of hs.2.1.2.2.2.1, ↓shA_of hs.2.2.2.2.1.2.1, h14, h15, nC (show n < 2147483648 by omega), hM1, g14, ↓rrf_of hs.2.1.2.2.2.2.2.1, ↓shA_of hs.2.2.2.2.1.2.2.2.1, hM2, k14, nI_1, hM3, l15, hM4, l14, e1]
  refine ⟨inB_n (by omega) (by omega), inB_n (by omega) (by omega), ?_⟩
  refine hk M4 l14 (by rw [← hM4, si_it, if_pos ⟨rfl, rfl⟩]) ?_ ?_ ?_ (fun j hj => ⟨?_, ?_⟩)
  · rw [← hM4, si_it, if_neg (by omega), ← hM3, si_it, if_neg (by omega), ← hM2, si_it, if_neg (by omega), ← hM1, si_it, if_pos ⟨rfl, rfl⟩]
  · rw [← hM4, si_it, if_neg (by omega), ← hM3, si_it, if_neg (by omega), ← hM2, si_it, if_pos ⟨rfl, rfl⟩]; rfl
  · rw [← hM4, ← hM3]; exact (o2.fld (by simp)).fld (by simp)
  · rw [← hM4, si_it, if_neg (by omega), ← hM3, si_it, if_neg (by omega), ← hM2, si_it, if_neg (by omega), ← hM1, si_it, if_neg (by omega)]
  · rw [← hM4, si_it, if_neg (by omega), ← hM3, si_it, if_neg (by omega), ← hM2, si_it, if_neg (by omega), ← hM1, si_it, if_neg (by omega)]
/-- what the write at place w waits for -/
def DepC (M : Mm) (r w : Nat) (l : List Nat) : Prop := l.length ≤ 160 ∧ M.it (r + 12) w = nI l.length ∧ ∀ j v, l[j]? = some v → M.it (r + 13) (200 * w + j) = nI v ∧ v < 1000000
def Dm (r w : Nat) (M M' : Mm) : Prop := Oi (fun y => y = r + 12 ∨ y = r + 13) M M' ∧ (∀ j, j ≠ w → M'.it (r + 12) j = M.it (r + 12) j) ∧ ∀ j, (j < 200 * w ∨ 200 * w + 200 ≤ j) → M'.it (r + 13) j = M.it (r + 13) j
def addN (l : List Nat) (n : Nat) : List Nat := if n ∈ l then l else l ++ [n]
theorem addN_mem {l : List Nat} {n m : Nat} : m ∈ addN l n ↔ m ∈ l ∨ m = n := by
  unfold addN
  split
  · rename_i h
    exact ⟨Or.inl, fun q => q.elim id (fun e => by rw [e]; exact h)⟩
  · simp
theorem addN_nd {l : List Nat} {n : Nat} (h : l.Nodup) : (addN l n).Nodup := by
  unfold addN
  split
  · exact h
  · rename_i c
    rw [List.nodup_append]
    refine ⟨h, by simp, fun a ha b hb => ?_⟩
    simp at hb
    intro e
    rw [e, hb] at ha
    exact c ha
theorem addN_len {l : List Nat} {n : Nat} : (addN l n).length ≤ l.length + 1 := by
  unfold addN
  split
  · omega
  · simp
theorem Dm.rf_ {r w : Nat} {M : Mm} : Dm r w M M := ⟨Oi.rf_, fun _ _ => rfl, fun _ _ => rfl⟩
theorem Dm.trans {r w : Nat} {M M' M2 : Mm} (h : Dm r w M M') (g : Dm r w M' M2) : Dm r w M M2 := ⟨h.1.trans g.1 (fun _ q => q), fun j hj => (g.2.1 j hj).trans (h.2.1 j hj), fun j hj => (g.2.2 j hj).trans (h.2.2 j hj)⟩
theorem e126 {d : Nat} {M : Mm} {k : mQ} {r w n : Nat} {l : List Nat} (hs : RS M r) (h : DepC M r w l) (hw : w < 160) (hn : n < 1000000) (hl : l.length < 160) (hk : ∀ M', DepC M' r w (addN l n) → Dm r w M M' → k none M') : XC (d + 1) 126 [.inr (some r), .inl (nI w), .inl (nI n)] M k := by
  obtain ⟨g1, g2, g3⟩ := h
  have lop : ∀ m i, i + m = l.length → (∀ j v, j < i → l[j]? = some v → v ≠ n) → X d 126 2 [some (.inr (some r)), some (.inl (nI w)), some (.inl (nI n)), some (.inl (nI i))] [] M k := by
    intro m
    induction m with
    | zero =>
      intro i hi hno
      have e : i = l.length := by omega
      subst e
      have hni : n ∉ l := by
        intro c
        obtain ⟨j, hj⟩ := List.mem_iff_getElem?.mp c
        exact hno j n (List.getElem?_eq_some_iff.mp hj).1 hj rfl
      have e3 : (200 : Int32) * nI w + nI l.length = nI (200 * w + l.length) := by rw [n_200, pk_mul, nI_add]
      generalize hM1 : M.si (r + 13) (200 * w + l.length) (nI n) = M1
      have q12 : M1.it (r + 12) w = nI l.length := by rw [← hM1, si_it, if_neg (by omega)]; exact g2
      refine vc_X 40 _ _ _ _ _ _ _ ?_
      simp only [↓v126_0, ↓v126_1, ↓v126_2, ↓v126_3, ↓v126_4, ↓v126_7, ↓v126_8, ↓v126_9, ↓v126_12, ↓v126_13, ↓v126_16, ↓v126_19, ↓v126_20, ↓v126_21, ↓v126_22, ↓v126_23, ↓v126_24, ↓v126_25, ↓v126_28, ↓v126_29, ↓v126_32, ↓v126_35, ↓v126_36, ↓v126_39, ↓v126_42, ↓v126_43, ↓v126_44, ↓v126_45, ↓v126_48, ↓v126_49, ↓v126_50, ↓v126_51, ↓v126_52, ↓v126_53, ↓v126_54, ↓v126_57, ↓v126_58, ↓v126_59, ↓v126_60, ↓v126_61, ↓v126_62, ↓v126_63, ↓qI_c, ↓qL_c, ↓qR_c, ↓pA_o, ↓qC_i, ↓qC_r, ↓oA_s, ↓gI_0, ↓gI_1, ↓gI_2, ↓gI_3, ↓gI_4, ↓gI_5, ↓gI_6, ↓gI_7, ↓gI_8, ↓gI_9, ↓gI_10, ↓gR_0, ↓gR_1, ↓gR_2, ↓gR_3, ↓gR_4, ↓gR_5, ↓gR_6, ↓gR_7, ↓gR_8, ↓gR_9, ↓gR_10, ↓sL_0, ↓sL_1, ↓sL_2, ↓sL_3, ↓sL_4, ↓sL_5, ↓sL_6, ↓sL_7, ↓sL_8, ↓sL_9, ↓sL_10, ↓rrf_si, ↓rrf_sg, ↓shO_si, ↓shO_sg, ↓shO_sr, ↓shA_si, ↓shA_sg, ↓shA_sr, ↓pAs_0, ↓pAs_i, ↓pAs_r, stk_n, stk_i, stk_l, stk_r, List.nil_append, List.cons_append, true_and, and_true, true_or, or_true, Nat.zero_add, dp_s, Nat.reduceAdd, le8_0, le8_1, le8_2, le8_3, le8_4, le8_5, le8_6, le8_7, le8_8, Classical.not_not, aT40, aT41, aT42, aT44, aT54, aT58, aT59, rT54, rT58, rT59, reduceIte, Nat.reduceEqDiff, qn_42, qn_44, true_implies, not_true_eq_false, not_false_eq_true, false_implies, le_T, nT (show l.length < 2147483648 by omega), ↓shO_of hs.1.1, ↓rrf_of hs.2.1.2.2.2.2.2.1, ↓shA_of hs.2.2.2.2.1.2.2.2.1, nC (show w < 2147483648 by omega), g2, Int.le_refl, ↓rrf_of hs.2.1.2.2.2.2.2.2.1, ↓shA_of hs.2.2.2.2.1.2.2.2.2.1, e3, nC (show 200 * w + l.length < 2147483648 by omega), hM1, q12, nI_1]
      refine ⟨inB_n (by omega) (by omega), inB_n (by omega) (by omega), inB_n (by omega) (by omega), inB_n (by omega) (by omega), ?_⟩
      refine ⟨inB_n (by omega) (by omega), ?_⟩
      have e : addN l n = l ++ [n] := if_neg hni
      rw [e] at hk
      refine hk _ ⟨by rw [List.length_append]; simp; omega, ?_, fun j v hj => ?_⟩ ⟨?_, fun j hj => ?_, fun j hj => ?_⟩
      · rw [si_it, if_pos ⟨rfl, rfl⟩, List.length_append]; rfl
      · rw [si_it, if_neg (by omega), ← hM1, si_it]
        by_cases cj : j = l.length
        · subst cj
          rw [List.getElem?_append_right (Nat.le_refl _), Nat.sub_self] at hj
          cases hj
          rw [if_pos ⟨rfl, rfl⟩]
          exact ⟨rfl, hn⟩
        · have hjl := (List.getElem?_eq_some_iff.mp hj).1
          rw [List.length_append] at hjl
          have hjl : j < l.length + 1 := hjl
          rw [if_neg (fun z => by omega)]
          rw [List.getElem?_append_left (by omega)] at hj
          exact g3 j v hj
      · rw [← hM1]
        exact (Oi.rf_.i (Or.inr rfl)).i (Or.inl rfl)
      · rw [si_it, if_neg (fun z => hj z.2), ← hM1, si_it, if_neg (by omega)]
      · rw [si_it, if_neg (by omega), ← hM1, si_it, if_neg (fun z => by omega)]
    | succ m ih =>
      intro i hi hno
      have hx : l[i]? = some l[i] := List.getElem?_eq_getElem (by omega)
      obtain ⟨q1, q2⟩ := g3 i _ hx
      have e3 : (200 : Int32) * nI w + nI i = nI (200 * w + i) := by rw [n_200, pk_mul, nI_add]
      refine vc_X 30 _ _ _ _ _ _ _ ?_
      simp only [↓v126_0, ↓v126_1, ↓v126_2, ↓v126_3, ↓v126_4, ↓v126_7, ↓v126_8, ↓v126_9, ↓v126_12, ↓v126_13, ↓v126_16, ↓v126_19, ↓v126_20, ↓v126_21, ↓v126_22, ↓v126_23, ↓v126_24, ↓v126_25, ↓v126_28, ↓v126_29, ↓v126_32, ↓v126_35, ↓v126_36, ↓v126_39, ↓v126_42, ↓v126_43, ↓v126_44, ↓v126_45, ↓v126_48, ↓v126_49, ↓v126_50, ↓v126_51, ↓v126_52, ↓v126_53, ↓v126_54, ↓v126_57, ↓v126_58, ↓v126_59, ↓v126_60, ↓v126_61, ↓v126_62, ↓v126_63, ↓qI_c, ↓qL_c, ↓qR_c, ↓pA_o, ↓qC_i, ↓qC_r, ↓oA_s, ↓gI_0, ↓gI_1, ↓gI_2, ↓gI_3, ↓gI_4, ↓gI_5, ↓gI_6, ↓gI_7, ↓gI_8, ↓gI_9, ↓gI_10, ↓gR_0, ↓gR_1, ↓gR_2, ↓gR_3, ↓gR_4, ↓gR_5, ↓gR_6, ↓gR_7, ↓gR_8, ↓gR_9, ↓gR_10, ↓sL_0, ↓sL_1, ↓sL_2, ↓sL_3, ↓sL_4, ↓sL_5, ↓sL_6, ↓sL_7, ↓sL_8, ↓sL_9, ↓sL_10, ↓rrf_si, ↓rrf_sg, ↓shO_si, ↓shO_sg, ↓shO_sr, ↓shA_si, ↓shA_sg, ↓shA_sr, ↓pAs_0, ↓pAs_i, ↓pAs_r, stk_n, stk_i, stk_l, stk_r, List.nil_append, List.cons_append, true_and, and_true, true_or, or_true, Nat.zero_add, dp_s, Nat.reduceAdd, le8_0, le8_1, le8_2, le8_3, le8_4, le8_5, le8_6, le8_7, le8_8, Classical.not_not, aT40, aT41, aT42, aT44, aT54, aT58, aT59, rT54, rT58, rT59, reduceIte, Nat.reduceEqDiff, qn_42, qn_44, true_implies, not_true_eq_false, not_false_eq_true, false_implies, le_T, nT (show i < 2147483648 by omega), nT (show l.length < 2147483648 by omega), ↓shO_of hs.1.1, ↓rrf_of hs.2.1.2.2.2.2.2.1, ↓shA_of hs.2.2.2.2.1.2.2.2.1, nC (show w < 2147483648 by omega), g2, ↓rrf_of hs.2.1.2.2.2.2.2.2.1, ↓shA_of hs.2.2.2.2.1.2.2.2.2.1, e3, nC (show 200 * w + i < 2147483648 by omega), q1, nI_1]
      refine ⟨inB_n (by omega) (by omega), fun c => by omega, fun _ => ⟨inB_n (by omega) (by omega), fun c => ?_, fun c => ?_⟩⟩
      · refine ih (i + 1) (by omega) (fun j v hj hv => ?_)
        by_cases cj : j = i
        · subst cj
          rw [hx] at hv
          cases hv
          exact fun e => c (by rw [e])
        · exact hno j v (by omega) hv
      · rw [nI_eq (by omega) (by omega)] at c
        have hmem : n ∈ l := by rw [← c]; exact List.getElem_mem _
        have e : addN l n = l := if_pos hmem
        rw [e] at hk
        exact hk M ⟨g1, g2, g3⟩ Dm.rf_
  refine xc ?_
  show X d 126 0 [some (.inr (some r)), some (.inl (nI w)), some (.inl (nI n)), none] [] M k
  refine vc_X 20 _ _ _ _ _ _ _ ?_
  simp only [↓v126_0, ↓v126_1, ↓v126_2, ↓v126_3, ↓v126_4, ↓v126_7, ↓v126_8, ↓v126_9, ↓v126_12, ↓v126_13, ↓v126_16, ↓v126_19, ↓v126_20, ↓v126_21, ↓v126_22, ↓v126_23, ↓v126_24, ↓v126_25, ↓v126_28, ↓v126_29, ↓v126_32, ↓v126_35, ↓v126_36, ↓v126_39, ↓v126_42, ↓v126_43, ↓v126_44, ↓v126_45, ↓v126_48, ↓v126_49, ↓v126_50, ↓v126_51, ↓v126_52, ↓v126_53, ↓v126_54, ↓v126_57, ↓v126_58, ↓v126_59, ↓v126_60, ↓v126_61, ↓v126_62, ↓v126_63, ↓qI_c, ↓qL_c, ↓qR_c, ↓pA_o, ↓qC_i, ↓qC_r, ↓oA_s, ↓gI_0, ↓gI_1, ↓gI_2, ↓gI_3, ↓gI_4, ↓gI_5, ↓gI_6, ↓gI_7, ↓gI_8, ↓gI_9, ↓gI_10, ↓gR_0, ↓gR_1, ↓gR_2, ↓gR_3, ↓gR_4, ↓gR_5, ↓gR_6, ↓gR_7, ↓gR_8, ↓gR_9, ↓gR_10, ↓sL_0, ↓sL_1, ↓sL_2, ↓sL_3, ↓sL_4, ↓sL_5, ↓sL_6, ↓sL_7, ↓sL_8, ↓sL_9, ↓sL_10, ↓rrf_si, ↓rrf_sg, ↓shO_si, ↓shO_sg, ↓shO_sr, ↓shA_si, ↓shA_sg, ↓shA_sr, ↓pAs_0, ↓pAs_i, ↓pAs_r, stk_n, stk_i, stk_l, stk_r, List.nil_append, List.cons_append, true_and, and_true, true_or, or_true, Nat.zero_add, dp_s, Nat.reduceAdd, le8_0, le8_1, le8_2, le8_3, le8_4, le8_5, le8_6, le8_7, le8_8, Classical.not_not, aT40, aT41, aT42, aT44, aT54, aT58, aT59, rT54, rT58, rT59, reduceIte, Nat.reduceEqDiff, qn_42, qn_44, true_implies, not_true_eq_false, not_false_eq_true, false_implies]
  exact lop l.length 0 (by omega) (fun j v hj => by omega)
/-- only the cells of the write at place w differ -/
def Wn (r w : Nat) (M M' : Mm) : Prop := (∀ j, j ≠ w → M'.it (r + 10) j = M.it (r + 10) j ∧ M'.it (r + 11) j = M.it (r + 11) j ∧ M'.it (r + 12) j = M.it (r + 12) j) ∧ (∀ j, (j < 200 * w ∨ 200 * w + 200 ≤ j) → M'.it (r + 13) j = M.it (r + 13) j) ∧ (∀ j, (j < 16 * w ∨ 16 * w + 16 ≤ j) → M'.it (r + 14) j = M.it (r + 14) j) ∧ ∀ j, (j < 18 * w ∨ 18 * w + 18 ≤ j) → M'.it (r + 15) j = M.it (r + 15) j
theorem Wn.rf_ {r w : Nat} {M : Mm} : Wn r w M M := ⟨fun _ _ => ⟨rfl, rfl, rfl⟩, fun _ _ => rfl, fun _ _ => rfl, fun _ _ => rfl⟩
theorem Wn.trans {r w : Nat} {M M' M2 : Mm} (h : Wn r w M M') (g : Wn r w M' M2) : Wn r w M M2 := ⟨fun j hj => ⟨(g.1 j hj).1.trans (h.1 j hj).1, (g.1 j hj).2.1.trans (h.1 j hj).2.1, (g.1 j hj).2.2.trans (h.1 j hj).2.2⟩, fun j hj => (g.2.1 j hj).trans (h.2.1 j hj), fun j hj => (g.2.2.1 j hj).trans (h.2.2.1 j hj), fun j hj => (g.2.2.2 j hj).trans (h.2.2.2 j hj)⟩
theorem RW1.wn {r w i : Nat} {M M' : Mm} {x : Wm} (h : RW1 M r i x) (hi : i ≠ w) (g : Wn r w M M') : RW1 M' r i x := by
  obtain ⟨⟨a1, a2, a3⟩, ⟨l, l1, l2, l3, l4, l5⟩, b1, b2⟩ := h
  have g1 := g.1 i hi
  refine ⟨⟨by rw [g1.1]; exact a1, by rw [g1.2.1]; exact a2, a3⟩, ⟨l, l1, l2, l3, by rw [g1.2.2]; exact l4, fun j v hj => ?_⟩, fun hr j hj => ?_, fun q hq => (b2 q hq).cong (fun j hj => g.2.2.2 _ (by omega))⟩
  · have := (List.getElem?_eq_some_iff.mp hj).1
    rw [g.2.1 _ (by omega)]
    exact l5 j v hj
  · rw [g.2.2.1 _ (by omega)]
    exact b1 hr j hj
theorem Dm.wn {r w : Nat} {M M' : Mm} (h : Dm r w M M') : Wn r w M M' := ⟨fun j hj => ⟨h.1.at_ (by omega) j, h.1.at_ (by omega) j, h.2.1 j hj⟩, h.2.2, fun j _ => h.1.at_ (by omega) j, fun j _ => h.1.at_ (by omega) j⟩
theorem RWs.app {r : Nat} {M M' : Mm} {ws : List Wm} {x : Wm} (h : RWs M r ws) (g : Wn r ws.length M M') (hx : RW1 M' r ws.length x) : RWs M' r (ws ++ [x]) := by
  intro i w hw
  rcases get_app hw with hw | ⟨h1, hw⟩
  · exact (h i w hw).wn (by have := (List.getElem?_eq_some_iff.mp hw).1; omega) g
  · have h2 := (List.getElem?_eq_some_iff.mp hw).1
    have e : i = ws.length := by simp at h2; omega
    subst e
    rw [Nat.sub_self] at hw
    cases hw
    exact hx
theorem nwM_s (ws : List Wm) (md p : Nat) (cl : List Nat) (o : Option Nat) (f : Nat → Bool) (b : Nat) : nwM ws md p cl o f (b + 1) = nwM ws md p cl o f b ++ [wmk (md + b) (p + b) none (fun j => (cl[16 * b + j]?).getD 0) (fun n => emD ws o n || f n) [] (fun _ _ => 0)] := by
  unfold nwM
  rw [List.range_succ, List.map_append]
  rfl
/-- the rows of the writes -/
def PW (r : Nat) : Nat → Prop := fun y => r + 10 ≤ y ∧ y ≤ r + 15
theorem lopE {d : Nat} {k : mQ} {r p nb md : Nat} {ws : List Wm} {cl : List Nat} {o by_ : Option Nat} {M0 : Mm} {z1 z2 z3 z4 : Option mL} (hnb : ws.length + nb ≤ 160) (hmd : md + nb < 1000000) (hp : p + nb ≤ 128) (hby : ∀ m, (∃ q, by_ = some q ∧ m = q) ↔ emD ws o m = true) (hby2 : ∀ q, by_ = some q → q < 1000000) (hcl : ∀ v ∈ cl, v < 256) (hnb2 : nb ≤ 16) :
    ∀ (m b : Nat) (M : Mm) (z9 z10 : Option mL), b + m = nb → RS M r → RWs M r (ws ++ nwM ws md p cl o (fun _ => false) b) → M.it r 14 = nI (ws.length + b) → M.it r 15 = nI (md + b) → (∀ q, q < 16 * nb → M.it (r + 19) q &&& 255 = nI ((cl[q]?).getD 0)) → Rf r (PW r) [14, 15] M0 M → (∀ M', RWs M' r (ws ++ nwM ws md p cl o (fun _ => false) nb) → M'.it r 14 = nI (ws.length + nb) → M'.it r 15 = nI (md + nb) → Rf r (PW r) [14, 15] M0 M' → k (some (.inl (nI p))) M') →
    X (d + 1) 121 271 [some (.inr (some r)), z1, z2, z3, z4, some (.inl (nI nb)), some (.inl (nI p)), some (.inl (oI by_)), some (.inl (nI b)), z9, z10] [] M k := by
  intro m
  induction m with
  | zero =>
    intro b M z9 z10 hb hs hw h14 h15 hc o1 hk
    have e : b = nb := by omega
    subst e
    refine vc_X 20 _ _ _ _ _ _ _ ?_
    simp only [↓v121_0, ↓v121_1, ↓v121_4, ↓v121_6, ↓v121_7, ↓v121_10, ↓v121_11, ↓v121_14, ↓v121_15, ↓v121_18, ↓v121_19, ↓v121_22, ↓v121_23, ↓v121_25, ↓v121_26, ↓v121_28, ↓v121_31, ↓v121_32, ↓v121_35, ↓v121_37, ↓v121_40, ↓v121_41, ↓v121_42, ↓v121_43, ↓v121_45, ↓v121_46, ↓v121_49, ↓v121_51, ↓v121_52, ↓v121_55, ↓v121_57, ↓v121_58, ↓v121_61, ↓v121_64, ↓v121_67, ↓v121_70, ↓v121_71, ↓v121_73, ↓v121_76, ↓v121_77, ↓v121_80, ↓v121_81, ↓v121_83, ↓v121_84, ↓v121_85, ↓v121_88, ↓v121_89, ↓v121_90, ↓v121_91, ↓v121_92, ↓v121_93, ↓v121_96, ↓v121_97, ↓v121_98, ↓v121_99, ↓v121_100, ↓v121_101, ↓v121_104, ↓v121_105, ↓v121_106, ↓v121_107, ↓v121_108, ↓v121_109, ↓v121_112, ↓v121_113, ↓v121_114, ↓v121_117, ↓v121_119, ↓v121_120, ↓v121_121, ↓v121_122, ↓v121_123, ↓v121_126, ↓v121_127, ↓v121_128, ↓v121_131, ↓v121_132, ↓v121_133, ↓v121_134, ↓v121_137, ↓v121_138, ↓v121_140, ↓v121_141, ↓v121_142, ↓v121_145, ↓v121_146, ↓v121_147, ↓v121_148, ↓v121_149, ↓v121_152, ↓v121_153, ↓v121_155, ↓v121_156, ↓v121_157, ↓v121_160, ↓v121_161, ↓v121_162, ↓v121_163, ↓v121_164, ↓v121_166, ↓v121_167, ↓v121_169, ↓v121_171, ↓v121_173, ↓v121_175, ↓v121_176, ↓v121_179, ↓v121_180, ↓v121_183, ↓v121_185, ↓v121_186, ↓v121_187, ↓v121_190, ↓v121_193, ↓v121_194, ↓v121_195, ↓v121_198, ↓v121_199, ↓v121_200, ↓v121_203, ↓v121_205, ↓v121_206, ↓v121_209, ↓v121_210, ↓v121_211, ↓v121_214, ↓v121_215, ↓v121_218, ↓v121_219, ↓v121_220, ↓v121_222, ↓v121_223, ↓v121_226, ↓v121_227, ↓v121_230, ↓v121_231, ↓v121_232, ↓v121_234, ↓v121_235, ↓v121_236, ↓v121_237, ↓v121_240, ↓v121_241, ↓v121_244, ↓v121_245, ↓v121_246, ↓v121_249, ↓v121_250, ↓v121_253, ↓v121_254, ↓v121_255, ↓v121_258, ↓v121_259, ↓v121_262, ↓v121_263, ↓v121_266, ↓v121_268, ↓v121_269, ↓v121_271, ↓v121_273, ↓v121_275, ↓v121_278, ↓v121_279, ↓v121_282, ↓v121_284, ↓v121_285, ↓v121_288, ↓v121_290, ↓v121_292, ↓v121_294, ↓v121_295, ↓v121_296, ↓v121_297, ↓v121_299, ↓v121_301, ↓v121_303, ↓v121_306, ↓v121_307, ↓v121_310, ↓v121_312, ↓v121_314, ↓v121_315, ↓v121_317, ↓v121_318, ↓v121_319, ↓v121_322, ↓v121_324, ↓v121_326, ↓v121_327, ↓v121_329, ↓v121_330, ↓v121_331, ↓v121_332, ↓v121_335, ↓v121_338, ↓v121_340, ↓v121_341, ↓v121_344, ↓v121_345, ↓v121_347, ↓v121_349, ↓v121_352, ↓v121_355, ↓v121_358, ↓v121_360, ↓qI_c, ↓qL_c, ↓qR_c, ↓pA_o, ↓qC_i, ↓qC_r, ↓oA_s, ↓gI_0, ↓gI_1, ↓gI_2, ↓gI_3, ↓gI_4, ↓gI_5, ↓gI_6, ↓gI_7, ↓gI_8, ↓gI_9, ↓gI_10, ↓gR_0, ↓gR_1, ↓gR_2, ↓gR_3, ↓gR_4, ↓gR_5, ↓gR_6, ↓gR_7, ↓gR_8, ↓gR_9, ↓gR_10, ↓sL_0, ↓sL_1, ↓sL_2, ↓sL_3, ↓sL_4, ↓sL_5, ↓sL_6, ↓sL_7, ↓sL_8, ↓sL_9, ↓sL_10, ↓rrf_si, ↓rrf_sg, ↓shO_si, ↓shO_sg, ↓shO_sr, ↓shA_si, ↓shA_sg, ↓shA_sr, ↓pAs_0, ↓pAs_i, ↓pAs_r, stk_n, stk_i, stk_l, stk_r, List.nil_append, List.cons_append, true_and, and_true, true_or, or_true, Nat.zero_add, dp_s, Nat.reduceAdd, le8_0, le8_1, le8_2, le8_3, le8_4, le8_5, le8_6, le8_7, le8_8, Classical.not_not, aT40, aT41, aT42, aT44, aT54, aT58, aT59, rT54, rT58, rT59, reduceIte, Nat.reduceEqDiff, qn_42, qn_44, true_implies, not_true_eq_false, not_false_eq_true, false_implies, le_T, nT (show b < 2147483648 by omega), Int.le_refl]
    exact hk M hw h14 h15 o1
  | succ m ih =>
    intro b M z9 z10 hb hs hw h14 h15 hc o1 hk
    have hwl : (ws ++ nwM ws md p cl o (fun _ => false) b).length = ws.length + b := by rw [List.length_append, nwM_len]
    have e2 : nI p + nI b = nI (p + b) := nI_add _ _
    refine vc_X 20 _ _ _ _ _ _ _ ?_
    simp only [↓v121_0, ↓v121_1, ↓v121_4, ↓v121_6, ↓v121_7, ↓v121_10, ↓v121_11, ↓v121_14, ↓v121_15, ↓v121_18, ↓v121_19, ↓v121_22, ↓v121_23, ↓v121_25, ↓v121_26, ↓v121_28, ↓v121_31, ↓v121_32, ↓v121_35, ↓v121_37, ↓v121_40, ↓v121_41, ↓v121_42, ↓v121_43, ↓v121_45, ↓v121_46, ↓v121_49, ↓v121_51, ↓v121_52, ↓v121_55, ↓v121_57, ↓v121_58, ↓v121_61, ↓v121_64, ↓v121_67, ↓v121_70, ↓v121_71, ↓v121_73, ↓v121_76, ↓v121_77, ↓v121_80, ↓v121_81, ↓v121_83, ↓v121_84, ↓v121_85, ↓v121_88, ↓v121_89, ↓v121_90, ↓v121_91, ↓v121_92, ↓v121_93, ↓v121_96, ↓v121_97, ↓v121_98, ↓v121_99, ↓v121_100, ↓v121_101, ↓v121_104, ↓v121_105, ↓v121_106, ↓v121_107, ↓v121_108, ↓v121_109, ↓v121_112, ↓v121_113, ↓v121_114, ↓v121_117, ↓v121_119, ↓v121_120, ↓v121_121, ↓v121_122, ↓v121_123, ↓v121_126, ↓v121_127, ↓v121_128, ↓v121_131, ↓v121_132, ↓v121_133, ↓v121_134, ↓v121_137, ↓v121_138, ↓v121_140, ↓v121_141, ↓v121_142, ↓v121_145, ↓v121_146, ↓v121_147, ↓v121_148, ↓v121_149, ↓v121_152, ↓v121_153, ↓v121_155, ↓v121_156, ↓v121_157, ↓v121_160, ↓v121_161, ↓v121_162, ↓v121_163, ↓v121_164, ↓v121_166, ↓v121_167, ↓v121_169, ↓v121_171, ↓v121_173, ↓v121_175, ↓v121_176, ↓v121_179, ↓v121_180, ↓v121_183, ↓v121_185, ↓v121_186, ↓v121_187, ↓v121_190, ↓v121_193, ↓v121_194, ↓v121_195, ↓v121_198, ↓v121_199, ↓v121_200, ↓v121_203, ↓v121_205, ↓v121_206, ↓v121_209, ↓v121_210, ↓v121_211, ↓v121_214, ↓v121_215, ↓v121_218, ↓v121_219, ↓v121_220, ↓v121_222, ↓v121_223, ↓v121_226, ↓v121_227, ↓v121_230, ↓v121_231, ↓v121_232, ↓v121_234, ↓v121_235, ↓v121_236, ↓v121_237, ↓v121_240, ↓v121_241, ↓v121_244, ↓v121_245, ↓v121_246, ↓v121_249, ↓v121_250, ↓v121_253, ↓v121_254, ↓v121_255, ↓v121_258, ↓v121_259, ↓v121_262, ↓v121_263, ↓v121_266, ↓v121_268, ↓v121_269, ↓v121_271, ↓v121_273, ↓v121_275, ↓v121_278, ↓v121_279, ↓v121_282, ↓v121_284, ↓v121_285, ↓v121_288, ↓v121_290, ↓v121_292, ↓v121_294, ↓v121_295, ↓v121_296, ↓v121_297, ↓v121_299, ↓v121_301, ↓v121_303, ↓v121_306, ↓v121_307, ↓v121_310, ↓v121_312, ↓v121_314, ↓v121_315, ↓v121_317, ↓v121_318, ↓v121_319, ↓v121_322, ↓v121_324, ↓v121_326, ↓v121_327, ↓v121_329, ↓v121_330, ↓v121_331, ↓v121_332, ↓v121_335, ↓v121_338, ↓v121_340, ↓v121_341, ↓v121_344, ↓v121_345, ↓v121_347, ↓v121_349, ↓v121_352, ↓v121_355, ↓v121_358, ↓v121_360, ↓qI_c, ↓qL_c, ↓qR_c, ↓pA_o, ↓qC_i, ↓qC_r, ↓oA_s, ↓gI_0, ↓gI_1, ↓gI_2, ↓gI_3, ↓gI_4, ↓gI_5, ↓gI_6, ↓gI_7, ↓gI_8, ↓gI_9, ↓gI_10, ↓gR_0, ↓gR_1, ↓gR_2, ↓gR_3, ↓gR_4, ↓gR_5, ↓gR_6, ↓gR_7, ↓gR_8, ↓gR_9, ↓gR_10, ↓sL_0, ↓sL_1, ↓sL_2, ↓sL_3, ↓sL_4, ↓sL_5, ↓sL_6, ↓sL_7, ↓sL_8, ↓sL_9, ↓sL_10, ↓rrf_si, ↓rrf_sg, ↓shO_si, ↓shO_sg, ↓shO_sr, ↓shA_si, ↓shA_sg, ↓shA_sr, ↓pAs_0, ↓pAs_i, ↓pAs_r, stk_n, stk_i, stk_l, stk_r, List.nil_append, List.cons_append, true_and, and_true, true_or, or_true, Nat.zero_add, dp_s, Nat.reduceAdd, le8_0, le8_1, le8_2, le8_3, le8_4, le8_5, le8_6, le8_7, le8_8, Classical.not_not, aT40, aT41, aT42, aT44, aT54, aT58, aT59, rT54, rT58, rT59, reduceIte, Nat.reduceEqDiff, qn_42, qn_44, true_implies, not_true_eq_false, not_false_eq_true, false_implies, le_T, nT (show b < 2147483648 by omega), nT (show nb < 2147483648 by omega), ↓shO_of hs.1.1]
    refine ⟨fun c => by omega, fun _ => e125 hs h14 h15 (by omega) (fun M2 a14 a15 a10 a12 o2 n2 => ⟨_, rfl, ?_⟩)⟩
    have hs2 := hs.oi o2.1
    generalize hM3 : M2.si (r + 11) (ws.length + b) (nI (p + b)) = M3
    have o3 : Rf r (PW r) [14, 15] M M3 := by rw [← hM3]; exact (o2.mono (P := PW r) (fun x q => by unfold PW; omega) (fun _ q => q)).row (by unfold PW; omega) (by omega)
    have hs3 := hs.oi o3.1
    have wn3 : Wn r (ws.length + b) M M3 := by
      rw [← hM3]
      refine ⟨fun j hj => ⟨?_, ?_, ?_⟩, fun j hj => ?_, fun j hj => ?_, fun j hj => ?_⟩
      · rw [si_it, if_neg (by omega)]; exact (n2 j hj).1
      · rw [si_it, if_neg (fun z => hj z.2), o2.at_ (by omega) (by omega)]
      · rw [si_it, if_neg (by omega)]; exact (n2 j hj).2
      · rw [si_it, if_neg (by omega), o2.at_ (by omega) (by omega)]
      · rw [si_it, if_neg (by omega), o2.at_ (by omega) (by omega)]
      · rw [si_it, if_neg (by omega), o2.at_ (by omega) (by omega)]
    have c3 : ∀ q, q < 16 * nb → M3.it (r + 19) q &&& 255 = nI ((cl[q]?).getD 0) := fun q hq => by rw [o3.at_ (by omega) (by unfold PW; omega)]; exact hc q hq
    have b14 : M3.it r 14 = nI (ws.length + (b + 1)) := by rw [← hM3, si_it, if_neg (by omega)]; exact a14
    have b15 : M3.it r 15 = nI (md + (b + 1)) := by rw [← hM3, si_it, if_neg (by omega)]; exact a15
    have b10 : M3.it (r + 10) (ws.length + b) = nI (md + b) := by rw [← hM3, si_it, if_neg (by omega)]; exact a10
    have b12 : M3.it (r + 12) (ws.length + b) = nI 0 := by rw [← hM3, si_it, if_neg (by omega)]; exact a12
    have b11 : M3.it (r + 11) (ws.length + b) = nI (p + b) := by rw [← hM3, si_it, if_pos ⟨rfl, rfl⟩]
    -- the sixteen bytes
    have lopB : ∀ (m2 q : Nat) (M4 : Mm), q + m2 = 16 → Rf r (· = r + 14) [] M3 M4 → (∀ j, (j < 16 * (ws.length + b) ∨ 16 * (ws.length + b) + 16 ≤ j) → M4.it (r + 14) j = M3.it (r + 14) j) → (∀ j, j < q → M4.it (r + 14) (16 * (ws.length + b) + j) &&& 255 = nI ((cl[16 * b + j]?).getD 0)) → X (d + 1) 121 299 [some (.inr (some r)), z1, z2, z3, z4, some (.inl (nI nb)), some (.inl (nI p)), some (.inl (oI by_)), some (.inl (nI b)), some (.inl (nI (ws.length + b))), some (.inl (nI q))] [] M4 k := by
      intro m2
      induction m2 with
      | zero =>
        intro q M4 hq o4 n4 y4
        have e : q = 16 := by omega
        subst e
        have hs4 := hs3.oi o4.1
        have wn4 : Wn r (ws.length + b) M M4 := wn3.trans ⟨fun j _ => ⟨o4.at_ (by omega) (by omega) j, o4.at_ (by omega) (by omega) j, o4.at_ (by omega) (by omega) j⟩, fun j _ => o4.at_ (by omega) (by omega) j, n4, fun j _ => o4.at_ (by omega) (by omega) j⟩
        have fin : ∀ (M5 : Mm) (l : List Nat), DepC M5 r (ws.length + b) l → l.Nodup → (∀ n, n ∈ l ↔ emD ws o n = true) → Dm r (ws.length + b) M4 M5 → X (d + 1) 121 352 [some (.inr (some r)), z1, z2, z3, z4, some (.inl (nI nb)), some (.inl (nI p)), some (.inl (oI by_)), some (.inl (nI b)), some (.inl (nI (ws.length + b))), some (.inl (nI 16))] [] M5 k := by
          intro M5 l dc nd hm dm
          have o45 : Rf r (PW r) [14, 15] M M5 := ⟨(o3.1.trans o4.1 (fun x q => q.elim Or.inl (fun z => Or.inr (by rw [z]; unfold PW; omega)))).trans dm.1 (fun x q => Or.inr (by unfold PW; omega)), fun j hj => by rw [dm.1.at_ (by omega), o4.2 j (by simp), o3.2 j hj]⟩
          have wn5 := wn4.trans dm.wn
          rw [← hwl] at wn5
          have e5 : ∀ y j, y = r + 10 ∨ y = r + 11 ∨ y = r + 14 ∨ y = r → M5.it y j = M4.it y j := fun y j hy => dm.1.at_ (by omega) j
          have rw1 : RW1 M5 r (ws.length + b) (wmk (md + b) (p + b) none (fun j => (cl[16 * b + j]?).getD 0) (fun n => emD ws o n || false) [] (fun _ _ => 0)) := by
            refine ⟨⟨?_, ?_, by show md + b < 1000000; omega, by show p + b < 130; omega⟩, ⟨l, nd, fun n => ?_, dc⟩, fun _ j hj => ?_, fun q hq => by cases hq⟩
            · rw [e5 _ _ (by omega), o4.at_ (by omega) (by omega)]; exact b10
            · rw [e5 _ _ (by omega), o4.at_ (by omega) (by omega)]; exact b11
            · rw [hm n]
              show _ ↔ (emD ws o n || false) = true
              rw [Bool.or_false]
            · rw [e5 _ _ (by omega)]; exact y4 j hj
          rw [← hwl] at rw1
          refine vc_X 20 _ _ _ _ _ _ _ ?_
          simp only [↓v121_0, ↓v121_1, ↓v121_4, ↓v121_6, ↓v121_7, ↓v121_10, ↓v121_11, ↓v121_14, ↓v121_15, ↓v121_18, ↓v121_19, ↓v121_22, ↓v121_23, ↓v121_25, ↓v121_26, ↓v121_28, ↓v121_31, ↓v121_32, ↓v121_35, ↓v121_37, ↓v121_40, ↓v121_41, ↓v121_42, ↓v121_43, ↓v121_45, ↓v121_46, ↓v121_49, ↓v121_51, ↓v121_52, ↓v121_55, ↓v121_57, ↓v121_58, ↓v121_61, ↓v121_64, ↓v121_67, ↓v121_70, ↓v121_71, ↓v121_73, ↓v121_76, ↓v121_77, ↓v121_80, ↓v121_81, ↓v121_83, ↓v121_84, ↓v121_85, ↓v121_88, ↓v121_89, ↓v121_90, ↓v121_91, ↓v121_92, ↓v121_93, ↓v121_96, ↓v121_97, ↓v121_98, ↓v121_99, ↓v121_100, ↓v121_101, ↓v121_104, ↓v121_105, ↓v121_106, ↓v121_107, ↓v121_108, ↓v121_109, ↓v121_112, ↓v121_113, ↓v121_114, ↓v121_117, ↓v121_119, ↓v121_120, ↓v121_121, ↓v121_122, ↓v121_123, ↓v121_126, ↓v121_127, ↓v121_128, ↓v121_131, ↓v121_132, ↓v121_133, ↓v121_134, ↓v121_137, ↓v121_138, ↓v121_140, ↓v121_141, ↓v121_142, ↓v121_145, ↓v121_146, ↓v121_147, ↓v121_148, ↓v121_149, ↓v121_152, ↓v121_153, ↓v121_155, ↓v121_156, ↓v121_157, ↓v121_160, ↓v121_161, ↓v121_162, ↓v121_163, ↓v121_164, ↓v121_166, ↓v121_167, ↓v121_169, ↓v121_171, ↓v121_173, ↓v121_175, ↓v121_176, ↓v121_179, ↓v121_180, ↓v121_183, ↓v121_185, ↓v121_186, ↓v121_187, ↓v121_190, ↓v121_193, ↓v121_194, ↓v121_195, ↓v121_198, ↓v121_199, ↓v121_200, ↓v121_203, ↓v121_205, ↓v121_206, ↓v121_209, ↓v121_210, ↓v121_211, ↓v121_214, ↓v121_215, ↓v121_218, ↓v121_219, ↓v121_220, ↓v121_222, ↓v121_223, ↓v121_226, ↓v121_227, ↓v121_230, ↓v121_231, ↓v121_232, ↓v121_234, ↓v121_235, ↓v121_236, ↓v121_237, ↓v121_240, ↓v121_241, ↓v121_244, ↓v121_245, ↓v121_246, ↓v121_249, ↓v121_250, ↓v121_253, ↓v121_254, ↓v121_255, ↓v121_258, ↓v121_259, ↓v121_262, ↓v121_263, ↓v121_266, ↓v121_268, ↓v121_269, ↓v121_271, ↓v121_273, ↓v121_275, ↓v121_278, ↓v121_279, ↓v121_282, ↓v121_284, ↓v121_285, ↓v121_288, ↓v121_290, ↓v121_292, ↓v121_294, ↓v121_295, ↓v121_296, ↓v121_297, ↓v121_299, ↓v121_301, ↓v121_303, ↓v121_306, ↓v121_307, ↓v121_310, ↓v121_312, ↓v121_314, ↓v121_315, ↓v121_317, ↓v121_318, ↓v121_319, ↓v121_322, ↓v121_324, ↓v121_326, ↓v121_327, ↓v121_329, ↓v121_330, ↓v121_331, ↓v121_332, ↓v121_335, ↓v121_338, ↓v121_340, ↓v121_341, ↓v121_344, ↓v121_345, ↓v121_347, ↓v121_349, ↓v121_352, ↓v121_355, ↓v121_358, ↓v121_360, ↓qI_c, ↓qL_c, ↓qR_c, ↓pA_o, ↓qC_i, ↓qC_r, ↓oA_s, ↓gI_0, ↓gI_1, ↓gI_2, ↓gI_3, ↓gI_4, ↓gI_5, ↓gI_6, ↓gI_7, ↓gI_8, ↓gI_9, ↓gI_10, ↓gR_0, ↓gR_1, ↓gR_2, ↓gR_3, ↓gR_4, ↓gR_5, ↓gR_6, ↓gR_7, ↓gR_8, ↓gR_9, ↓gR_10, ↓sL_0, ↓sL_1, ↓sL_2, ↓sL_3, ↓sL_4, ↓sL_5, ↓sL_6, ↓sL_7, ↓sL_8, ↓sL_9, ↓sL_10, ↓rrf_si, ↓rrf_sg, ↓shO_si, ↓shO_sg, ↓shO_sr, ↓shA_si, ↓shA_sg, ↓shA_sr, ↓pAs_0, ↓pAs_i, ↓pAs_r, stk_n, stk_i, stk_l, stk_r, List.nil_append, List.cons_append, true_and, and_true, true_or, or_true, Nat.zero_add, dp_s, Nat.reduceAdd, le8_0, le8_1, le8_2, le8_3, le8_4, le8_5, le8_6, le8_7, le8_8, Classical.not_not, aT40, aT41, aT42, aT44, aT54, aT58, aT59, rT54, rT58, rT59, reduceIte, Nat.reduceEqDiff, qn_42, qn_44, true_implies, not_true_eq_false, not_false_eq_true, false_implies, nI_1]
          refine ih (b + 1) M5 _ _ (by omega) (hs.oi o45.1) ?_ ?_ ?_ (fun q hq => ?_) (o1.trans o45 (fun _ q => q) (fun _ q => q)) hk
          · rw [nwM_s, ← List.append_assoc]
            exact hw.app wn5 rw1
          · rw [e5 _ _ (by omega), o4.2 14 (by simp)]; exact b14
          · rw [e5 _ _ (by omega), o4.2 15 (by simp)]; exact b15
          · rw [o45.at_ (by omega) (by unfold PW; omega)]; exact hc q hq
        have dc0 : DepC M4 r (ws.length + b) [] := ⟨by simp, by rw [o4.at_ (by omega) (by omega)]; exact b12, fun j v hj => by simp at hj⟩
        cases hbq : by_ with
        | none =>
          rw [hbq] at fin hby
          have fin0 := fin M4 [] dc0 List.nodup_nil (fun n => by rw [← hby n]; simp) Dm.rf_
          refine vc_X 20 _ _ _ _ _ _ _ ?_
          simp only [↓v121_0, ↓v121_1, ↓v121_4, ↓v121_6, ↓v121_7, ↓v121_10, ↓v121_11, ↓v121_14, ↓v121_15, ↓v121_18, ↓v121_19, ↓v121_22, ↓v121_23, ↓v121_25, ↓v121_26, ↓v121_28, ↓v121_31, ↓v121_32, ↓v121_35, ↓v121_37, ↓v121_40, ↓v121_41, ↓v121_42, ↓v121_43, ↓v121_45, ↓v121_46, ↓v121_49, ↓v121_51, ↓v121_52, ↓v121_55, ↓v121_57, ↓v121_58, ↓v121_61, ↓v121_64, ↓v121_67, ↓v121_70, ↓v121_71, ↓v121_73, ↓v121_76, ↓v121_77, ↓v121_80, ↓v121_81, ↓v121_83, ↓v121_84, ↓v121_85, ↓v121_88, ↓v121_89, ↓v121_90, ↓v121_91, ↓v121_92, ↓v121_93, ↓v121_96, ↓v121_97, ↓v121_98, ↓v121_99, ↓v121_100, ↓v121_101, ↓v121_104, ↓v121_105, ↓v121_106, ↓v121_107, ↓v121_108, ↓v121_109, ↓v121_112, ↓v121_113, ↓v121_114, ↓v121_117, ↓v121_119, ↓v121_120, ↓v121_121, ↓v121_122, ↓v121_123, ↓v121_126, ↓v121_127, ↓v121_128, ↓v121_131, ↓v121_132, ↓v121_133, ↓v121_134, ↓v121_137, ↓v121_138, ↓v121_140, ↓v121_141, ↓v121_142, ↓v121_145, ↓v121_146, ↓v121_147, ↓v121_148, ↓v121_149, ↓v121_152, ↓v121_153, ↓v121_155, ↓v121_156, ↓v121_157, ↓v121_160, ↓v121_161, ↓v121_162, ↓v121_163, ↓v121_164, ↓v121_166, ↓v121_167, ↓v121_169, ↓v121_171, ↓v121_173, ↓v121_175, ↓v121_176, ↓v121_179, ↓v121_180, ↓v121_183, ↓v121_185, ↓v121_186, ↓v121_187, ↓v121_190, ↓v121_193, ↓v121_194, ↓v121_195, ↓v121_198, ↓v121_199, ↓v121_200, ↓v121_203, ↓v121_205, ↓v121_206, ↓v121_209, ↓v121_210, ↓v121_211, ↓v121_214, ↓v121_215, ↓v121_218, ↓v121_219, ↓v121_220, ↓v121_222, ↓v121_223, ↓v121_226, ↓v121_227, ↓v121_230, ↓v121_231, ↓v121_232, ↓v121_234, ↓v121_235, ↓v121_236, ↓v121_237, ↓v121_240, ↓v121_241, ↓v121_244, ↓v121_245, ↓v121_246, ↓v121_249, ↓v121_250, ↓v121_253, ↓v121_254, ↓v121_255, ↓v121_258, ↓v121_259, ↓v121_262, ↓v121_263, ↓v121_266, ↓v121_268, ↓v121_269, ↓v121_271, ↓v121_273, ↓v121_275, ↓v121_278, ↓v121_279, ↓v121_282, ↓v121_284, ↓v121_285, ↓v121_288, ↓v121_290, ↓v121_292, ↓v121_294, ↓v121_295, ↓v121_296, ↓v121_297, ↓v121_299, ↓v121_301, ↓v121_303, ↓v121_306, ↓v121_307, ↓v121_310, ↓v121_312, ↓v121_314, ↓v121_315, ↓v121_317, ↓v121_318, ↓v121_319, ↓v121_322, ↓v121_324, ↓v121_326, ↓v121_327, ↓v121_329, ↓v121_330, ↓v121_331, ↓v121_332, ↓v121_335, ↓v121_338, ↓v121_340, ↓v121_341, ↓v121_344, ↓v121_345, ↓v121_347, ↓v121_349, ↓v121_352, ↓v121_355, ↓v121_358, ↓v121_360, ↓qI_c, ↓qL_c, ↓qR_c, ↓pA_o, ↓qC_i, ↓qC_r, ↓oA_s, ↓gI_0, ↓gI_1, ↓gI_2, ↓gI_3, ↓gI_4, ↓gI_5, ↓gI_6, ↓gI_7, ↓gI_8, ↓gI_9, ↓gI_10, ↓gR_0, ↓gR_1, ↓gR_2, ↓gR_3, ↓gR_4, ↓gR_5, ↓gR_6, ↓gR_7, ↓gR_8, ↓gR_9, ↓gR_10, ↓sL_0, ↓sL_1, ↓sL_2, ↓sL_3, ↓sL_4, ↓sL_5, ↓sL_6, ↓sL_7, ↓sL_8, ↓sL_9, ↓sL_10, ↓rrf_si, ↓rrf_sg, ↓shO_si, ↓shO_sg, ↓shO_sr, ↓shA_si, ↓shA_sg, ↓shA_sr, ↓pAs_0, ↓pAs_i, ↓pAs_r, stk_n, stk_i, stk_l, stk_r, List.nil_append, List.cons_append, true_and, and_true, true_or, or_true, Nat.zero_add, dp_s, Nat.reduceAdd, le8_0, le8_1, le8_2, le8_3, le8_4, le8_5, le8_6, le8_7, le8_8, Classical.not_not, aT40, aT41, aT42, aT44, aT54, aT58, aT59, rT54, rT58, rT59, reduceIte, Nat.reduceEqDiff, qn_42, qn_44, true_implies, not_true_eq_false, not_false_eq_true, false_implies, le_T, T_16, nT (show 16 < 2147483648 by omega), oI_none, m11]
          refine ⟨fun _ => ?_, fun c => absurd (by decide) c⟩
          rw [oI_none] at fin0
          exact fin0
        | some q =>
          rw [hbq] at fin hby
          have hq2 := hby2 q hbq
          have e4 : oI (some q) = nI q := rfl
          rw [e4] at fin
          refine vc_X 20 _ _ _ _ _ _ _ ?_
          simp only [↓v121_0, ↓v121_1, ↓v121_4, ↓v121_6, ↓v121_7, ↓v121_10, ↓v121_11, ↓v121_14, ↓v121_15, ↓v121_18, ↓v121_19, ↓v121_22, ↓v121_23, ↓v121_25, ↓v121_26, ↓v121_28, ↓v121_31, ↓v121_32, ↓v121_35, ↓v121_37, ↓v121_40, ↓v121_41, ↓v121_42, ↓v121_43, ↓v121_45, ↓v121_46, ↓v121_49, ↓v121_51, ↓v121_52, ↓v121_55, ↓v121_57, ↓v121_58, ↓v121_61, ↓v121_64, ↓v121_67, ↓v121_70, ↓v121_71, ↓v121_73, ↓v121_76, ↓v121_77, ↓v121_80, ↓v121_81, ↓v121_83, ↓v121_84, ↓v121_85, ↓v121_88, ↓v121_89, ↓v121_90, ↓v121_91, ↓v121_92, ↓v121_93, ↓v121_96, ↓v121_97, ↓v121_98, ↓v121_99, ↓v121_100, ↓v121_101, ↓v121_104, ↓v121_105, ↓v121_106, ↓v121_107, ↓v121_108, ↓v121_109, ↓v121_112, ↓v121_113, ↓v121_114, ↓v121_117, ↓v121_119, ↓v121_120, ↓v121_121, ↓v121_122, ↓v121_123, ↓v121_126, ↓v121_127, ↓v121_128, ↓v121_131, ↓v121_132, ↓v121_133, ↓v121_134, ↓v121_137, ↓v121_138, ↓v121_140, ↓v121_141, ↓v121_142, ↓v121_145, ↓v121_146, ↓v121_147, ↓v121_148, ↓v121_149, ↓v121_152, ↓v121_153, ↓v121_155, ↓v121_156, ↓v121_157, ↓v121_160, ↓v121_161, ↓v121_162, ↓v121_163, ↓v121_164, ↓v121_166, ↓v121_167, ↓v121_169, ↓v121_171, ↓v121_173, ↓v121_175, ↓v121_176, ↓v121_179, ↓v121_180, ↓v121_183, ↓v121_185, ↓v121_186, ↓v121_187, ↓v121_190, ↓v121_193, ↓v121_194, ↓v121_195, ↓v121_198, ↓v121_199, ↓v121_200, ↓v121_203, ↓v121_205, ↓v121_206, ↓v121_209, ↓v121_210, ↓v121_211, ↓v121_214, ↓v121_215, ↓v121_218, ↓v121_219, ↓v121_220, ↓v121_222, ↓v121_223, ↓v121_226, ↓v121_227, ↓v121_230, ↓v121_231, ↓v121_232, ↓v121_234, ↓v121_235, ↓v121_236, ↓v121_237, ↓v121_240, ↓v121_241, ↓v121_244, ↓v121_245, ↓v121_246, ↓v121_249, ↓v121_250, ↓v121_253, ↓v121_254, ↓v121_255, ↓v121_258, ↓v121_259, ↓v121_262, ↓v121_263, ↓v121_266, ↓v121_268, ↓v121_269, ↓v121_271, ↓v121_273, ↓v121_275, ↓v121_278, ↓v121_279, ↓v121_282, ↓v121_284, ↓v121_285, ↓v121_288, ↓v121_290, ↓v121_292, ↓v121_294, ↓v121_295, ↓v121_296, ↓v121_297, ↓v121_299, ↓v121_301, ↓v121_303, ↓v121_306, ↓v121_307, ↓v121_310, ↓v121_312, ↓v121_314, ↓v121_315, ↓v121_317, ↓v121_318, ↓v121_319, ↓v121_322, ↓v121_324, ↓v121_326, ↓v121_327, ↓v121_329, ↓v121_330, ↓v121_331, ↓v121_332, ↓v121_335, ↓v121_338, ↓v121_340, ↓v121_341, ↓v121_344, ↓v121_345, ↓v121_347, ↓v121_349, ↓v121_352, ↓v121_355, ↓v121_358, ↓v121_360, ↓qI_c, ↓qL_c, ↓qR_c, ↓pA_o, ↓qC_i, ↓qC_r, ↓oA_s, ↓gI_0, ↓gI_1, ↓gI_2, ↓gI_3, ↓gI_4, ↓gI_5, ↓gI_6, ↓gI_7, ↓gI_8, ↓gI_9, ↓gI_10, ↓gR_0, ↓gR_1, ↓gR_2, ↓gR_3, ↓gR_4, ↓gR_5, ↓gR_6, ↓gR_7, ↓gR_8, ↓gR_9, ↓gR_10, ↓sL_0, ↓sL_1, ↓sL_2, ↓sL_3, ↓sL_4, ↓sL_5, ↓sL_6, ↓sL_7, ↓sL_8, ↓sL_9, ↓sL_10, ↓rrf_si, ↓rrf_sg, ↓shO_si, ↓shO_sg, ↓shO_sr, ↓shA_si, ↓shA_sg, ↓shA_sr, ↓pAs_0, ↓pAs_i, ↓pAs_r, stk_n, stk_i, stk_l, stk_r, List.nil_append, List.cons_append, true_and, and_true, true_or, or_true, Nat.zero_add, dp_s, Nat.reduceAdd, le8_0, le8_1, le8_2, le8_3, le8_4, le8_5, le8_6, le8_7, le8_8, Classical.not_not, aT40, aT41, aT42, aT44, aT54, aT58, aT59, rT54, rT58, rT59, reduceIte, Nat.reduceEqDiff, qn_42, qn_44, true_implies, not_true_eq_false, not_false_eq_true, false_implies, le_T, T_16, nT (show 16 < 2147483648 by omega), e4, nI_nm (show q < 2147483648 by omega) (show ((-1 : Int32)).toInt < 0 by decide), ↓shO_of hs4.1.1]
          refine ⟨fun _ => ?_, fun c => absurd (by decide) c⟩
          refine e126 hs4 dc0 (by omega) hq2 (by simp) (fun M5 dc5 dm5 => ⟨rfl, ?_⟩)
          exact fin M5 _ dc5 (addN_nd List.nodup_nil) (fun n => by rw [addN_mem, ← hby n]; simp) dm5
      | succ m2 ih2 =>
        intro q M4 hq o4 n4 y4
        have hs4 := hs3.oi o4.1
        have e5 : (16 : Int32) * nI (ws.length + b) + nI q = nI (16 * (ws.length + b) + q) := by rw [n_16, pk_mul, nI_add]
        have e6 : (16 : Int32) * nI b + nI q = nI (16 * b + q) := by rw [n_16, pk_mul, nI_add]
        have hv := c3 (16 * b + q) (by omega)
        rw [← o4.at_ (show r + 19 ≠ r by omega) (by omega)] at hv
        refine vc_X 40 _ _ _ _ _ _ _ ?_
        simp only [↓v121_0, ↓v121_1, ↓v121_4, ↓v121_6, ↓v121_7, ↓v121_10, ↓v121_11, ↓v121_14, ↓v121_15, ↓v121_18, ↓v121_19, ↓v121_22, ↓v121_23, ↓v121_25, ↓v121_26, ↓v121_28, ↓v121_31, ↓v121_32, ↓v121_35, ↓v121_37, ↓v121_40, ↓v121_41, ↓v121_42, ↓v121_43, ↓v121_45, ↓v121_46, ↓v121_49, ↓v121_51, ↓v121_52, ↓v121_55, ↓v121_57, ↓v121_58, ↓v121_61, ↓v121_64, ↓v121_67, ↓v121_70, ↓v121_71, ↓v121_73, ↓v121_76, ↓v121_77, ↓v121_80, ↓v121_81, ↓v121_83, ↓v121_84, ↓v121_85, ↓v121_88, ↓v121_89, ↓v121_90, ↓v121_91, ↓v121_92, ↓v121_93, ↓v121_96, ↓v121_97, ↓v121_98, ↓v121_99, ↓v121_100, ↓v121_101, ↓v121_104, ↓v121_105, ↓v121_106, ↓v121_107, ↓v121_108, ↓v121_109, ↓v121_112, ↓v121_113, ↓v121_114, ↓v121_117, ↓v121_119, ↓v121_120, ↓v121_121, ↓v121_122, ↓v121_123, ↓v121_126, ↓v121_127, ↓v121_128, ↓v121_131, ↓v121_132, ↓v121_133, ↓v121_134, ↓v121_137, ↓v121_138, ↓v121_140, ↓v121_141, ↓v121_142, ↓v121_145, ↓v121_146, ↓v121_147, ↓v121_148, ↓v121_149, ↓v121_152, ↓v121_153, ↓v121_155, ↓v121_156, ↓v121_157, ↓v121_160, ↓v121_161, ↓v121_162, ↓v121_163, ↓v121_164, ↓v121_166, ↓v121_167, ↓v121_169, ↓v121_171, ↓v121_173, ↓v121_175, ↓v121_176, ↓v121_179, ↓v121_180, ↓v121_183, ↓v121_185, ↓v121_186, ↓v121_187, ↓v121_190, ↓v121_193, ↓v121_194, ↓v121_195, ↓v121_198, ↓v121_199, ↓v121_200, ↓v121_203, ↓v121_205, ↓v121_206, ↓v121_209, ↓v121_210, ↓v121_211, ↓v121_214, ↓v121_215, ↓v121_218, ↓v121_219, ↓v121_220, ↓v121_222, ↓v121_223, ↓v121_226, ↓v121_227, ↓v121_230, ↓v121_231, ↓v121_232, ↓v121_234, ↓v121_235, ↓v121_236, ↓v121_237, ↓v121_240, ↓v121_241, ↓v121_244, ↓v121_245, ↓v121_246, ↓v121_249, ↓v121_250, ↓v121_253, ↓v121_254, ↓v121_255, ↓v121_258, ↓v121_259, ↓v121_262, ↓v121_263, ↓v121_266, ↓v121_268, ↓v121_269, ↓v121_271, ↓v121_273, ↓v121_275, ↓v121_278, ↓v121_279, ↓v121_282, ↓v121_284, ↓v121_285, ↓v121_288, ↓v121_290, ↓v121_292, ↓v121_294, ↓v121_295, ↓v121_296, ↓v121_297, ↓v121_299, ↓v121_301, ↓v121_303, ↓v121_306, ↓v121_307, ↓v121_310, ↓v121_312, ↓v121_314, ↓v121_315, ↓v121_317, ↓v121_318, ↓v121_319, ↓v121_322, ↓v121_324, ↓v121_326, ↓v121_327, ↓v121_329, ↓v121_330, ↓v121_331, ↓v121_332, ↓v121_335, ↓v121_338, ↓v121_340, ↓v121_341, ↓v121_344, ↓v121_345, ↓v121_347, ↓v121_349, ↓v121_352, ↓v121_355, ↓v121_358, ↓v121_360, ↓qI_c, ↓qL_c, ↓qR_c, ↓pA_o, ↓qC_i, ↓qC_r, ↓oA_s, ↓gI_0, ↓gI_1, ↓gI_2, ↓gI_3, ↓gI_4, ↓gI_5, ↓gI_6, ↓gI_7, ↓gI_8, ↓gI_9, ↓gI_10, ↓gR_0, ↓gR_1, ↓gR_2, ↓gR_3, ↓gR_4, ↓gR_5, ↓gR_6, ↓gR_7, ↓gR_8, ↓gR_9, ↓gR_10, ↓sL_0, ↓sL_1, ↓sL_2, ↓sL_3, ↓sL_4, ↓sL_5, ↓sL_6, ↓sL_7, ↓sL_8, ↓sL_9, ↓sL_10, ↓rrf_si, ↓rrf_sg, ↓shO_si, ↓shO_sg, ↓shO_sr, ↓shA_si, ↓shA_sg, ↓shA_sr, ↓pAs_0, ↓pAs_i, ↓pAs_r, stk_n, stk_i, stk_l, stk_r, List.nil_append, List.cons_append, true_and, and_true, true_or, or_true, Nat.zero_add, dp_s, Nat.reduceAdd, le8_0, le8_1, le8_2, le8_3, le8_4, le8_5, le8_6, le8_7, le8_8, Classical.not_not, aT40, aT41, aT42, aT44, aT54, aT58, aT59, rT54, rT58, rT59, reduceIte, Nat.reduceEqDiff, qn_42, qn_44, true_implies, not_true_eq_false, not_false_eq_true, false_implies, le_T, T_16, nT (show q < 2147483648 by omega), ↓shO_of hs4.1.1, ↓rrf_of hs4.2.1.2.2.2.2.2.2.2, ↓shA_of hs4.2.2.2.2.1.2.2.2.2.2.1, e5, nC (show 16 * (ws.length + b) + q < 2147483648 by omega), ↓rrf_of hs4.2.2.1.2.2.2.2.1, ↓shA_of hs4.2.2.2.2.2.2.2.1, e6, nC (show 16 * b + q < 2147483648 by omega), nI_1]
        refine ⟨fun c => by omega, fun _ => ⟨inB_n (by omega) (by omega), inB_n (by omega) (by omega), ?_⟩⟩
        refine ih2 (q + 1) _ (by omega) (o4.row rfl (by omega)) (fun j hj => by rw [si_it, if_neg (fun z => by omega)]; exact n4 j hj) (fun j hj => ?_)
        by_cases cj : j = q
        · subst cj
          rw [si_it, if_pos ⟨rfl, rfl⟩, nar_and]
          exact hv
        · rw [si_it, if_neg (fun z => by omega)]
          exact y4 j (by omega)
    refine vc_X 30 _ _ _ _ _ _ _ ?_
    simp only [↓v121_0, ↓v121_1, ↓v121_4, ↓v121_6, ↓v121_7, ↓v121_10, ↓v121_11, ↓v121_14, ↓v121_15, ↓v121_18, ↓v121_19, ↓v121_22, ↓v121_23, ↓v121_25, ↓v121_26, ↓v121_28, ↓v121_31, ↓v121_32, ↓v121_35, ↓v121_37, ↓v121_40, ↓v121_41, ↓v121_42, ↓v121_43, ↓v121_45, ↓v121_46, ↓v121_49, ↓v121_51, ↓v121_52, ↓v121_55, ↓v121_57, ↓v121_58, ↓v121_61, ↓v121_64, ↓v121_67, ↓v121_70, ↓v121_71, ↓v121_73, ↓v121_76, ↓v121_77, ↓v121_80, ↓v121_81, ↓v121_83, ↓v121_84, ↓v121_85, ↓v121_88, ↓v121_89, ↓v121_90, ↓v121_91, ↓v121_92, ↓v121_93, ↓v121_96, ↓v121_97, ↓v121_98, ↓v121_99, ↓v121_100, ↓v121_101, ↓v121_104, ↓v121_105, ↓v121_106, ↓v121_107, ↓v121_108, ↓v121_109, ↓v121_112, ↓v121_113, ↓v121_114, ↓v121_117, ↓v121_119, ↓v121_120, ↓v121_121, ↓v121_122, ↓v121_123, ↓v121_126, ↓v121_127, ↓v121_128, ↓v121_131, ↓v121_132, ↓v121_133, ↓v121_134, ↓v121_137, ↓v121_138, ↓v121_140, ↓v121_141, ↓v121_142, ↓v121_145, ↓v121_146, ↓v121_147, ↓v121_148, ↓v121_149, ↓v121_152, ↓v121_153, ↓v121_155, ↓v121_156, ↓v121_157, ↓v121_160, ↓v121_161, ↓v121_162, ↓v121_163, ↓v121_164, ↓v121_166, ↓v121_167, ↓v121_169, ↓v121_171, ↓v121_173, ↓v121_175, ↓v121_176, ↓v121_179, ↓v121_180, ↓v121_183, ↓v121_185, ↓v121_186, ↓v121_187, ↓v121_190, ↓v121_193, ↓v121_194, ↓v121_195, ↓v121_198, ↓v121_199, ↓v121_200, ↓v121_203, ↓v121_205, ↓v121_206, ↓v121_209, ↓v121_210, ↓v121_211, ↓v121_214, ↓v121_215, ↓v121_218, ↓v121_219, ↓v121_220, ↓v121_222, ↓v121_223, ↓v121_226, ↓v121_227, ↓v121_230, ↓v121_231, ↓v121_232, ↓v121_234, ↓v121_235, ↓v121_236, ↓v121_237, ↓v121_240, ↓v121_241, ↓v121_244, ↓v121_245, ↓v121_246, ↓v121_249, ↓v121_250, ↓v121_253, ↓v121_254, ↓v121_255, ↓v121_258, ↓v121_259, ↓v121_262, ↓v121_263, ↓v121_266, ↓v121_268, ↓v121_269, ↓v121_271, ↓v121_273, ↓v121_275, ↓v121_278, ↓v121_279, ↓v121_282, ↓v121_284, ↓v121_285, ↓v121_288, ↓v121_290, ↓v121_292, ↓v121_294, ↓v121_295, ↓v121_296, ↓v121_297, ↓v121_299, ↓v121_301, ↓v121_303, ↓v121_306, ↓v121_307, ↓v121_310, ↓v121_312, ↓v121_314, ↓v121_315, ↓v121_317, ↓v121_318, ↓v121_319, ↓v121_322, ↓v121_324, ↓v121_326, ↓v121_327, ↓v121_329, ↓v121_330, ↓v121_331, ↓v121_332, ↓v121_335, ↓v121_338, ↓v121_340, ↓v121_341, ↓v121_344, ↓v121_345, ↓v121_347, ↓v121_349, ↓v121_352, ↓v121_355, ↓v121_358, ↓v121_360, ↓qI_c, ↓qL_c, ↓qR_c, ↓pA_o, ↓qC_i, ↓qC_r, ↓oA_s, ↓gI_0, ↓gI_1, ↓gI_2, ↓gI_3, ↓gI_4, ↓gI_5, ↓gI_6, ↓gI_7, ↓gI_8, ↓gI_9, ↓gI_10, ↓gR_0, ↓gR_1, ↓gR_2, ↓gR_3, ↓gR_4, ↓gR_5, ↓gR_6, ↓gR_7, ↓gR_8, ↓gR_9, ↓gR_10, ↓sL_0, ↓sL_1, ↓sL_2, ↓sL_3, ↓sL_4, ↓sL_5, ↓sL_6, ↓sL_7, ↓sL_8, ↓sL_9, ↓sL_10, ↓rrf_si, ↓rrf_sg, ↓shO_si, ↓shO_sg, ↓shO_sr, ↓shA_si, ↓shA_sg, ↓shA_sr, ↓pAs_0, ↓pAs_i, ↓pAs_r, stk_n, stk_i, stk_l, stk_r, List.nil_append, List.cons_append, true_and, and_true, true_or, or_true, Nat.zero_add, dp_s, Nat.reduceAdd, le8_0, le8_1, le8_2, le8_3, le8_4, le8_5, le8_6, le8_7, le8_8, Classical.not_not, aT40, aT41, aT42, aT44, aT54, aT58, aT59, rT54, rT58, rT59, reduceIte, Nat.reduceEqDiff, qn_42, qn_44, true_implies, not_true_eq_false, not_false_eq_true, false_implies, ↓shO_of hs2.1.1, ↓rrf_of hs2.2.1.2.2.2.2.1, ↓shA_of hs2.2.2.2.2.1.2.2.1, e2, nC (show ws.length + b < 2147483648 by omega)]
    refine ⟨inB_n (by omega) (by omega), ?_⟩
    rw [hM3]
    exact lopB 16 0 M3 (by omega) Rf.rf_ (fun _ _ => rfl) (fun j hj => by omega)
