/-! Queue.remove -/
def clrb (t : Nat) (x : WT) : WT := (x.1, x.2.1, x.2.2.1, x.2.2.2.1, x.2.2.2.2.1, fun s => x.2.2.2.2.2 s && !decide (s = t))
/-- the row behind a removal of place p, of n -/
def pmR (pm : Nat → Nat) (p n : Nat) : Nat → Nat := fun k => if k < p then pm k else if k + 1 < n then pm (k + 1) else if k + 1 = n then pm p else pm k
/-- what waits behind it -/
def wsR (ws : List WT) (p t : Nat) : List WT := ws.take p ++ (ws.drop (p + 1)).map (clrb t)
theorem wsR_len {ws : List WT} {p t : Nat} (hp : p < ws.length) : (wsR ws p t).length = ws.length - 1 := by
  simp [wsR]
  omega
theorem wsR_get {ws : List WT} {p t k : Nat} {x : WT} (hp : p < ws.length) (h : (wsR ws p t)[k]? = some x) : (k < p ∧ ws[k]? = some x) ∨ (p ≤ k ∧ ∃ y, ws[k + 1]? = some y ∧ x = clrb t y) := by
  unfold wsR at h
  by_cases hk : k < p
  · left
    rw [List.getElem?_append_left (by rw [List.length_take]; omega), List.getElem?_take, if_pos hk] at h
    exact ⟨hk, h⟩
  · right
    rw [List.getElem?_append_right (by rw [List.length_take]; omega), List.length_take, List.getElem?_map, List.getElem?_drop, show p + 1 + (k - min p ws.length) = k + 1 by omega] at h
    cases hy : ws[k + 1]? with
    | none => rw [hy] at h; cases h
    | some y =>
      rw [hy] at h
      exact ⟨by omega, y, rfl, (Option.some.inj h).symm⟩
/-- in the midst of the removal: the row is moved up to i, the writes p + 1 .. i wait no more for it -/
def QR (M : Mm) (q : Nat) (pm : Nat → Nat) (made : Nat) (ws : List WT) (p i : Nat) : Prop :=
  (M.sh q = some (7, 0) ∧ M.rf q 0 = some (q + 1) ∧ M.sh (q + 1) = some (59, 120)) ∧ M.it q 1 = nI (ws.length - 1) ∧ M.it q 2 = nI made ∧
  (∀ k, k < 120 → M.rf (q + 1) k = some (q + 2 + 2 * (if p ≤ k ∧ k < i then pm (k + 1) else pm k))) ∧ (∀ s, s < 120 → Wr M (q + 2 + 2 * s) s) ∧
  (∀ k x, ws[k]? = some x → WrC M (q + 2 + 2 * pm k) (if p < k ∧ k ≤ i then clrb (pm p) x else x))
theorem lop97 {d : Nat} {k : mQ} {q made p : Nat} {pm : Nat → Nat} {ws : List WT} (hpm : ∀ k, k < 120 → pm k < 120) (inj : ∀ i j, i < 120 → j < 120 → pm i = pm j → i = j) (hs : ∀ k x, ws[k]? = some x → x.1 = pm k) (hp : p < ws.length) (hl : ws.length ≤ 120) : ∀ (m i : Nat) (M : Mm), i + m + 1 = ws.length → p ≤ i → QR M q pm made ws p i → (∀ M', QR M' q pm made ws p (ws.length - 1) → Of (PQ q) M M' → k none (M'.sr (q + 1) (ws.length - 1) (some (q + 2 + 2 * pm p)))) →
    X (d + 1) 97 32 [some (.inr (some q)), some (.inl (nI p)), some (.inr (some (q + 2 + 2 * pm p))), some (.inl (nI i))] [] M k := by
  intro m
  induction m with
  | zero =>
    intro i M hi hpi h hk
    have e : i = ws.length - 1 := by omega
    subst e
    obtain ⟨⟨b1, b2, b3⟩, g1, g2, g3, g4, g5⟩ := id h
    have hw := g4 (pm p) (hpm p (by omega))
    refine vc_X 30 _ _ _ _ _ _ _ ?_
    simp only [↓v97_0, ↓v97_1, ↓v97_4, ↓v97_5, ↓v97_6, ↓v97_9, ↓v97_12, ↓v97_13, ↓v97_14, ↓v97_17, ↓v97_18, ↓v97_19, ↓v97_20, ↓v97_21, ↓v97_22, ↓v97_25, ↓v97_26, ↓v97_27, ↓v97_30, ↓v97_31, ↓v97_32, ↓v97_33, ↓v97_34, ↓v97_37, ↓v97_40, ↓v97_41, ↓v97_44, ↓v97_45, ↓v97_46, ↓v97_49, ↓v97_50, ↓v97_51, ↓v97_52, ↓v97_53, ↓v97_54, ↓v97_55, ↓v97_58, ↓v97_59, ↓v97_60, ↓v97_61, ↓v97_64, ↓v97_67, ↓v97_70, ↓v97_71, ↓v97_74, ↓v97_75, ↓v97_78, ↓v97_79, ↓v97_80, ↓qI_c, ↓qL_c, ↓qR_c, ↓pA_o, ↓qC_i, ↓qC_r, ↓oA_s, ↓gI_0, ↓gI_1, ↓gI_2, ↓gI_3, ↓gI_4, ↓gI_5, ↓gI_6, ↓gI_7, ↓gI_8, ↓gI_9, ↓gI_10, ↓gR_0, ↓gR_1, ↓gR_2, ↓gR_3, ↓gR_4, ↓gR_5, ↓gR_6, ↓gR_7, ↓gR_8, ↓gR_9, ↓gR_10, ↓sL_0, ↓sL_1, ↓sL_2, ↓sL_3, ↓sL_4, ↓sL_5, ↓sL_6, ↓sL_7, ↓sL_8, ↓sL_9, ↓sL_10, ↓rrf_si, ↓rrf_sg, ↓shO_si, ↓shO_sg, ↓shO_sr, ↓shA_si, ↓shA_sg, ↓shA_sr, ↓pAs_0, ↓pAs_i, ↓pAs_r, stk_n, stk_i, stk_l, stk_r, List.nil_append, List.cons_append, true_and, and_true, true_or, or_true, Nat.zero_add, dp_s, Nat.reduceAdd, le8_0, le8_1, le8_2, le8_3, le8_4, le8_5, le8_6, le8_7, le8_8, Classical.not_not, aT40, aT41, aT42, aT44, aT54, aT58, aT59, rT54, rT58, rT59, reduceIte, Nat.reduceEqDiff, qn_42, qn_44, true_implies, not_true_eq_false, not_false_eq_true, false_implies, ↓shO_of b1, ↓rrf_of b2, ↓shA_of b3, g1, le_T, nT (show ws.length - 1 < 2147483648 by omega), nC (show ws.length - 1 < 2147483648 by omega)]
    refine ⟨fun _ => ⟨inB_n (by omega) (by omega), fun b hb => ?_, hk M h Of.rf_⟩, fun c => absurd (Int.le_refl _) c⟩
    cases hb
    exact hw.1
  | succ m ih =>
    intro i M hi hpi h hk
    obtain ⟨⟨b1, b2, b3⟩, g1, g2, g3, g4, g5⟩ := id h
    have hi120 : i + 1 < 120 := by omega
    have r1 : M.rf (q + 1) (nI (i + 1)).toNatClampNeg = some (q + 2 + 2 * pm (i + 1)) := by
      rw [nC (by omega), g3 (i + 1) hi120, if_neg (by omega)]
    have hw1 := g4 (pm (i + 1)) (hpm _ hi120)
    have hwp := g4 (pm p) (hpm p (by omega))
    have hx0 : ws[i + 1]? = some ws[i + 1] := List.getElem?_eq_getElem (by omega)
    have hx := hx0
    have wx := g5 (i + 1) _ hx
    rw [if_neg (by omega)] at wx
    have sx := hs _ _ hx
    have hne : pm (i + 1) ≠ pm p := fun e => by have := inj _ _ hi120 (by omega) e; omega
    generalize hM1 : M.sr (q + 1) i (some (q + 2 + 2 * pm (i + 1))) = M1
    have o1 : Of (· = q + 1) M M1 := by rw [← hM1]; exact Of.rf_.r rfl
    have r2 : M1.rf (q + 1) i = some (q + 2 + 2 * pm (i + 1)) := by
      rw [← hM1, sr_rf, if_pos ⟨rfl, rfl⟩]
    have c1 : M1.sh q = some (7, 0) := by rw [o1.1]; exact b1
    have c2 : M1.rf q 0 = some (q + 1) := by rw [(o1.2.2.2 q (by omega) 0).2.2]; exact b2
    have c3 : M1.sh (q + 1) = some (59, 120) := by rw [o1.1]; exact b3
    have ni : (nI i).toNatClampNeg = i := nC (by omega)
    refine vc_X 40 _ _ _ _ _ _ _ ?_
    simp only [↓v97_0, ↓v97_1, ↓v97_4, ↓v97_5, ↓v97_6, ↓v97_9, ↓v97_12, ↓v97_13, ↓v97_14, ↓v97_17, ↓v97_18, ↓v97_19, ↓v97_20, ↓v97_21, ↓v97_22, ↓v97_25, ↓v97_26, ↓v97_27, ↓v97_30, ↓v97_31, ↓v97_32, ↓v97_33, ↓v97_34, ↓v97_37, ↓v97_40, ↓v97_41, ↓v97_44, ↓v97_45, ↓v97_46, ↓v97_49, ↓v97_50, ↓v97_51, ↓v97_52, ↓v97_53, ↓v97_54, ↓v97_55, ↓v97_58, ↓v97_59, ↓v97_60, ↓v97_61, ↓v97_64, ↓v97_67, ↓v97_70, ↓v97_71, ↓v97_74, ↓v97_75, ↓v97_78, ↓v97_79, ↓v97_80, ↓qI_c, ↓qL_c, ↓qR_c, ↓pA_o, ↓qC_i, ↓qC_r, ↓oA_s, ↓gI_0, ↓gI_1, ↓gI_2, ↓gI_3, ↓gI_4, ↓gI_5, ↓gI_6, ↓gI_7, ↓gI_8, ↓gI_9, ↓gI_10, ↓gR_0, ↓gR_1, ↓gR_2, ↓gR_3, ↓gR_4, ↓gR_5, ↓gR_6, ↓gR_7, ↓gR_8, ↓gR_9, ↓gR_10, ↓sL_0, ↓sL_1, ↓sL_2, ↓sL_3, ↓sL_4, ↓sL_5, ↓sL_6, ↓sL_7, ↓sL_8, ↓sL_9, ↓sL_10, ↓rrf_si, ↓rrf_sg, ↓shO_si, ↓shO_sg, ↓shO_sr, ↓shA_si, ↓shA_sg, ↓shA_sr, ↓pAs_0, ↓pAs_i, ↓pAs_r, stk_n, stk_i, stk_l, stk_r, List.nil_append, List.cons_append, true_and, and_true, true_or, or_true, Nat.zero_add, dp_s, Nat.reduceAdd, le8_0, le8_1, le8_2, le8_3, le8_4, le8_5, le8_6, le8_7, le8_8, Classical.not_not, aT40, aT41, aT42, aT44, aT54, aT58, aT59, rT54, rT58, rT59, reduceIte, Nat.reduceEqDiff, qn_42, qn_44, true_implies, not_true_eq_false, not_false_eq_true, false_implies, ↓shO_of b1, ↓rrf_of b2, ↓shA_of b3, ↓rrf_of r1, g1, le_T, nT (show ws.length - 1 < 2147483648 by omega), nT (show i < 2147483648 by omega), nI_1, ni, hM1, ↓shO_of c1, ↓rrf_of c2, ↓shA_of c3, ↓shO_of hw1.1, ↓rrf_of r2]
    refine ⟨fun c => by omega, fun _ => ⟨inB_n (by omega) (by omega), inB_n (by omega) (by omega), fun b hb => ?_, inB_n (by omega) (by omega), ?_⟩⟩
    · cases hb
      exact hw1.1
    have hb1 := hpm (i + 1) hi120
    have hbp := hpm p (by omega)
    have wx1 : WrC M1 (q + 2 + 2 * pm (i + 1)) ws[i + 1] := wx.kf o1 (by omega) (by omega)
    refine k98 wx1 (hwp.kf o1 (by omega)) (fun M2 w2 o2 => ⟨rfl, ?_⟩)
    refine vc_X 40 _ _ _ _ _ _ _ ?_
    simp only [↓v97_0, ↓v97_1, ↓v97_4, ↓v97_5, ↓v97_6, ↓v97_9, ↓v97_12, ↓v97_13, ↓v97_14, ↓v97_17, ↓v97_18, ↓v97_19, ↓v97_20, ↓v97_21, ↓v97_22, ↓v97_25, ↓v97_26, ↓v97_27, ↓v97_30, ↓v97_31, ↓v97_32, ↓v97_33, ↓v97_34, ↓v97_37, ↓v97_40, ↓v97_41, ↓v97_44, ↓v97_45, ↓v97_46, ↓v97_49, ↓v97_50, ↓v97_51, ↓v97_52, ↓v97_53, ↓v97_54, ↓v97_55, ↓v97_58, ↓v97_59, ↓v97_60, ↓v97_61, ↓v97_64, ↓v97_67, ↓v97_70, ↓v97_71, ↓v97_74, ↓v97_75, ↓v97_78, ↓v97_79, ↓v97_80, ↓qI_c, ↓qL_c, ↓qR_c, ↓pA_o, ↓qC_i, ↓qC_r, ↓oA_s, ↓gI_0, ↓gI_1, ↓gI_2, ↓gI_3, ↓gI_4, ↓gI_5, ↓gI_6, ↓gI_7, ↓gI_8, ↓gI_9, ↓gI_10, ↓gR_0, ↓gR_1, ↓gR_2, ↓gR_3, ↓gR_4, ↓gR_5, ↓gR_6, ↓gR_7, ↓gR_8, ↓gR_9, ↓gR_10, ↓sL_0, ↓sL_1, ↓sL_2, ↓sL_3, ↓sL_4, ↓sL_5, ↓sL_6, ↓sL_7, ↓sL_8, ↓sL_9, ↓sL_10, ↓rrf_si, ↓rrf_sg, ↓shO_si, ↓shO_sg, ↓shO_sr, ↓shA_si, ↓shA_sg, ↓shA_sr, ↓pAs_0, ↓pAs_i, ↓pAs_r, stk_n, stk_i, stk_l, stk_r, List.nil_append, List.cons_append, true_and, and_true, true_or, or_true, Nat.zero_add, dp_s, Nat.reduceAdd, le8_0, le8_1, le8_2, le8_3, le8_4, le8_5, le8_6, le8_7, le8_8, Classical.not_not, aT40, aT41, aT42, aT44, aT54, aT58, aT59, rT54, rT58, rT59, reduceIte, Nat.reduceEqDiff, qn_42, qn_44, true_implies, not_true_eq_false, not_false_eq_true, false_implies, nI_1]
    have o12 : Of (fun y => y = q + 1 ∨ y = q + 2 + 2 * pm (i + 1)) M M2 := (o1.mono (P := fun y => y = q + 1 ∨ y = q + 2 + 2 * pm (i + 1)) (fun x hx => Or.inl hx)).trans o2 (fun x hx => Or.inr hx)
    have hR : QR M2 q pm made ws p (i + 1) := by
      refine ⟨⟨by rw [o12.1]; exact b1, by rw [(o12.2.2.2 q (by omega) 0).2.2]; exact b2, by rw [o12.1]; exact b3⟩, by rw [(o12.2.2.2 q (by omega) 1).1]; exact g1, by rw [(o12.2.2.2 q (by omega) 2).1]; exact g2, fun k hk => ?_, fun s hs => ?_, fun k x hx => ?_⟩
      · rw [(o2.2.2.2 (q + 1) (by omega) k).2.2, ← hM1, sr_rf]
        by_cases hki : k = i
        · rw [if_pos ⟨rfl, hki⟩, if_pos (by omega), hki]
        · rw [if_neg (fun h => hki h.2), g3 k hk]
          by_cases hc : p ≤ k ∧ k < i
          · rw [if_pos hc, if_pos (by omega)]
          · rw [if_neg hc, if_neg (by omega)]
      · by_cases hsp : s = pm (i + 1)
        · rw [hsp]
          have := w2.1
          rw [show (ws[i + 1].1, ws[i + 1].2.1, ws[i + 1].2.2.1, ws[i + 1].2.2.2.1, ws[i + 1].2.2.2.2.1, fun s => ws[i + 1].2.2.2.2.2 s && !decide (s = pm p)).1 = pm (i + 1) from sx] at this
          exact this
        · exact (g4 s hs).kf o12 (by omega)
      · by_cases hki : k = i + 1
        · subst hki
          rw [hx0] at hx
          cases hx
          rw [if_pos (by omega)]
          exact w2
        · have hk2 : k < 120 := by have := (List.getElem?_eq_some_iff.mp hx).1; omega
          have hne2 : pm k ≠ pm (i + 1) := fun e => hki (inj k (i + 1) hk2 hi120 e)
          have := (g5 k x hx).kf o12 (by omega) (by omega)
          by_cases hc : p < k ∧ k ≤ i
          · rw [if_pos hc] at this
            rw [if_pos (by omega)]
            exact this
          · rw [if_neg hc] at this
            rw [if_neg (by omega)]
            exact this
    exact ih (i + 1) M2 (by omega) (by omega) hR (fun M' h' o' => hk M' h' ((o12.mono (fun y hy => by unfold PQ; omega)).trans o' (fun _ x => x)))
theorem pmR_lt {pm : Nat → Nat} {p n : Nat} (h : ∀ k, k < 120 → pm k < 120) (hp : p < n) (hn : n ≤ 120) : ∀ k, k < 120 → pmR pm p n k < 120 := by
  intro k hk
  unfold pmR
  repeat' split
  all_goals exact h _ (by omega)
theorem pmR_inj {pm : Nat → Nat} {p n : Nat} (h : ∀ i j, i < 120 → j < 120 → pm i = pm j → i = j) (hp : p < n) (hn : n ≤ 120) : ∀ i j, i < 120 → j < 120 → pmR pm p n i = pmR pm p n j → i = j := by
  intro i j hi hj e
  unfold pmR at e
  repeat' split at e
  all_goals
    have := h _ _ (by omega) (by omega) e
    omega
theorem k97 {d : Nat} {M : Mm} {k : mQ} {q made p : Nat} {pm : Nat → Nat} {ws : List WT} (h : QuC M q pm made ws) (hp : p < ws.length) (hk : ∀ M', QuC M' q (pmR pm p ws.length) made (wsR ws p (pm p)) → Of (PQ q) M M' → k none M') : XC (d + 2) 97 [.inr (some q), .inl (nI p)] M k := by
  obtain ⟨⟨b1, b2, b3, b4, b5, b6⟩, g1, g2, g3, g4, g5⟩ := id h
  have b4' : M.rf (q + 1) (nI p).toNatClampNeg = some (q + 2 + 2 * pm p) := by rw [nC (by omega)]; exact (b4 p (by omega)).1
  have hpp := (b4 p (by omega)).2
  refine xc ?_
  show X (d + 1) 97 0 [some (.inr (some q)), some (.inl (nI p)), none, none] [] M k
  refine vc_X 40 _ _ _ _ _ _ _ ?_
  simp only [↓v97_0, ↓v97_1, ↓v97_4, ↓v97_5, ↓v97_6, ↓v97_9, ↓v97_12, ↓v97_13, ↓v97_14, ↓v97_17, ↓v97_18, ↓v97_19, ↓v97_20, ↓v97_21, ↓v97_22, ↓v97_25, ↓v97_26, ↓v97_27, ↓v97_30, ↓v97_31, ↓v97_32, ↓v97_33, ↓v97_34, ↓v97_37, ↓v97_40, ↓v97_41, ↓v97_44, ↓v97_45, ↓v97_46, ↓v97_49, ↓v97_50, ↓v97_51, ↓v97_52, ↓v97_53, ↓v97_54, ↓v97_55, ↓v97_58, ↓v97_59, ↓v97_60, ↓v97_61, ↓v97_64, ↓v97_67, ↓v97_70, ↓v97_71, ↓v97_74, ↓v97_75, ↓v97_78, ↓v97_79, ↓v97_80, ↓qI_c, ↓qL_c, ↓qR_c, ↓pA_o, ↓qC_i, ↓qC_r, ↓oA_s, ↓gI_0, ↓gI_1, ↓gI_2, ↓gI_3, ↓gI_4, ↓gI_5, ↓gI_6, ↓gI_7, ↓gI_8, ↓gI_9, ↓gI_10, ↓gR_0, ↓gR_1, ↓gR_2, ↓gR_3, ↓gR_4, ↓gR_5, ↓gR_6, ↓gR_7, ↓gR_8, ↓gR_9, ↓gR_10, ↓sL_0, ↓sL_1, ↓sL_2, ↓sL_3, ↓sL_4, ↓sL_5, ↓sL_6, ↓sL_7, ↓sL_8, ↓sL_9, ↓sL_10, ↓rrf_si, ↓rrf_sg, ↓shO_si, ↓shO_sg, ↓shO_sr, ↓shA_si, ↓shA_sg, ↓shA_sr, ↓pAs_0, ↓pAs_i, ↓pAs_r, stk_n, stk_i, stk_l, stk_r, List.nil_append, List.cons_append, true_and, and_true, true_or, or_true, Nat.zero_add, dp_s, Nat.reduceAdd, le8_0, le8_1, le8_2, le8_3, le8_4, le8_5, le8_6, le8_7, le8_8, Classical.not_not, aT40, aT41, aT42, aT44, aT54, aT58, aT59, rT54, rT58, rT59, reduceIte, Nat.reduceEqDiff, qn_42, qn_44, true_implies, not_true_eq_false, not_false_eq_true, false_implies, ↓shO_of b1, ↓rrf_of b2, ↓shA_of b3, ↓rrf_of b4', g1, lt_T, le_T, T_0, nT (show ws.length < 2147483648 by omega), nT (show p < 2147483648 by omega)]
  refine ⟨fun c => by omega, fun _ => ⟨fun _ => ⟨inB_n (by omega) (by omega), ?_⟩, fun c => by omega⟩⟩
  rw [show nI ws.length - 1 = nI (ws.length - 1) by rw [n_1]; exact pk_sub (by omega)]
  generalize hM1 : M.si q 1 (nI (ws.length - 1)) = M1
  have o1 : Of (· = q) M M1 := by rw [← hM1]; exact Of.rf_.i rfl
  have hR : QR M1 q pm made ws p p := by
    refine ⟨⟨by rw [o1.1]; exact b1, ?_, by rw [o1.1]; exact b3⟩, ?_, ?_, fun k hk => ?_, fun s hs => (b6 s hs).kf o1 (by omega), fun k x hx => ?_⟩
    · rw [← hM1]; exact b2
    · rw [← hM1, si_it, if_pos ⟨rfl, rfl⟩]
    · rw [← hM1, si_it, if_neg (by simp)]; exact g3
    · rw [(o1.2.2.2 (q + 1) (by omega) k).2.2, if_neg (by omega)]; exact (b4 k hk).1
    · rw [if_neg (by omega)]
      exact (g5 k x hx).2.kf o1 (by omega) (by omega)
  refine lop97 (fun k hk => (b4 k hk).2) b5 (fun k x hx => (g5 k x hx).1) hp g2 (ws.length - 1 - p) p M1 (by omega) (Nat.le_refl _) hR (fun M2 h2 o2 => ?_)
  obtain ⟨⟨f1, f2, f3⟩, f4, f5, f6, f7, f8⟩ := h2
  generalize hM3 : M2.sr (q + 1) (ws.length - 1) (some (q + 2 + 2 * pm p)) = M3
  have o3 : Of (· = q + 1) M2 M3 := by rw [← hM3]; exact Of.rf_.r rfl
  refine hk M3 ⟨⟨by rw [o3.1]; exact f1, by rw [(o3.2.2.2 q (by omega) 0).2.2]; exact f2, by rw [o3.1]; exact f3, fun k hk => ⟨?_, pmR_lt (fun k hk => (b4 k hk).2) hp g2 k hk⟩, pmR_inj b5 hp g2, fun s hs => (f7 s hs).kf o3 (by omega)⟩, by rw [(o3.2.2.2 q (by omega) 1).1, wsR_len hp]; exact f4, by rw [wsR_len hp]; omega, by rw [(o3.2.2.2 q (by omega) 2).1]; exact f5, g4, fun k x hx => ?_⟩ (((o1.mono (fun y hy => by unfold PQ; omega)).trans o2 (fun _ x => x)).trans o3 (fun y hy => by unfold PQ; omega))
  · rw [← hM3, sr_rf]
    by_cases hkn : k = ws.length - 1
    · rw [if_pos ⟨rfl, hkn⟩]
      unfold pmR
      rw [if_neg (by omega), if_neg (by omega), if_pos (by omega)]
    · rw [if_neg (fun h => hkn h.2), f6 k hk]
      unfold pmR
      by_cases hc : k < p
      · rw [if_neg (by omega), if_pos hc]
      · rw [if_neg hc]
        by_cases hc2 : k + 1 < ws.length
        · rw [if_pos hc2, if_pos (by omega)]
        · rw [if_neg hc2, if_neg (by omega), if_neg (by omega)]
  · rcases wsR_get hp hx with ⟨hkp, hx1⟩ | ⟨hpk, y, hy, rfl⟩
    · have e : pmR pm p ws.length k = pm k := by unfold pmR; rw [if_pos hkp]
      have := f8 k x hx1
      rw [if_neg (by omega)] at this
      rw [e]
      have hb := (b4 k (by omega)).2
      exact ⟨(g5 k x hx1).1, this.kf o3 (by omega) (by omega)⟩
    · have hlt := (List.getElem?_eq_some_iff.mp hy).1
      have e : pmR pm p ws.length k = pm (k + 1) := by unfold pmR; rw [if_neg (by omega), if_pos hlt]
      have := f8 (k + 1) y hy
      rw [if_pos (by omega)] at this
      rw [e]
      have hb := (b4 (k + 1) (by omega)).2
      exact ⟨(g5 (k + 1) y hy).1, this.kf o3 (by omega) (by omega)⟩
