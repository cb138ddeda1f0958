/-! Queue: make, lastOnesWaitFor, readyCount, readyPosition -/
theorem rrf_sr (M : Mm) (a k b j : Nat) (x : Option Nat) (F : Option Nat → Prop) (h : ¬ (b = a ∧ j = k)) : rrf (M.sr a k x) b j F = rrf M b j F := by
  unfold rrf
  rw [sr_rf, if_neg h]
/-- one write of the queue has changed -/
theorem QuC.upd {M M' : Mm} {q made i : Nat} {pm : Nat → Nat} {ws : List WT} {x' : WT} (h : QuC M q pm made ws) (hi : i < ws.length) (hx : x'.1 = pm i) (hw : WrC M' (q + 2 + 2 * pm i) x') (o : Of (fun y => y = q + 2 + 2 * pm i ∨ y = q + 2 + 2 * pm i + 1) M M') : QuC M' q pm made (ws.set i x') := by
  obtain ⟨⟨b1, b2, b3, b4, b5, b6⟩, g1, g2, g3, g4, g5⟩ := h
  have hpi := (b4 i (by omega)).2
  refine ⟨⟨by rw [o.1]; exact b1, by rw [(o.2.2.2 q (by omega) 0).2.2]; exact b2, by rw [o.1]; exact b3, fun k hk => by rw [(o.2.2.2 (q + 1) (by omega) k).2.2]; exact b4 k hk, b5, fun s hs => ?_⟩, by rw [(o.2.2.2 q (by omega) 1).1, List.length_set]; exact g1, by rw [List.length_set]; exact g2, by rw [(o.2.2.2 q (by omega) 2).1]; exact g3, g4, fun k x hk => ?_⟩
  · by_cases hsi : s = pm i
    · rw [hsi]
      rw [← hx]
      rw [← hx] at hw
      exact hw.1
    · exact (b6 s hs).kf o (by omega)
  · by_cases hki : k = i
    · subst hki
      rw [List.getElem?_set_self hi] at hk
      cases hk
      exact ⟨hx, hw⟩
    · rw [List.getElem?_set_ne (Ne.symm hki)] at hk
      have hk2 : k < 120 := by have := (List.getElem?_eq_some_iff.mp hk).1; omega
      have hne : pm k ≠ pm i := fun e => hki (b5 k i hk2 (by omega) e)
      exact ⟨(g5 k x hk).1, (g5 k x hk).2.kf o (by omega) (by omega)⟩
theorem k55 {d : Nat} {M : Mm} {k : mQ} {q made t : Nat} {pm : Nat → Nat} {ws : List WT} (h : QuC M q pm made ws) (hn : ws.length < 120) (hm : made + 1 < 1000000) (ht : t < 130) (hk : ∀ (M' : Mm) (by_ : Nat → Int32), QuC M' q pm (made + 1) (ws ++ [(pm ws.length, made, t, none, by_, fun _ => false)]) → Of (PQ q) M M' → k (some (.inr (.inr (some (q + 2 + 2 * pm ws.length))))) M') : XC (d + 2) 55 [.inr (some q), .inl (nI t)] M k := by
  obtain ⟨⟨b1, b2, b3, b4, b5, b6⟩, g1, g2, g3, g4, g5⟩ := id h
  obtain ⟨r1, r2⟩ := b4 ws.length hn
  have b4' : M.rf (q + 1) (nI ws.length).toNatClampNeg = some (q + 2 + 2 * pm ws.length) := by rw [nC (by omega)]; exact r1
  refine xc ?_
  show X (d + 1) 55 0 [some (.inr (some q)), some (.inl (nI t)), none] [] M k
  have w0 := b6 (pm ws.length) r2
  refine vc_X 40 _ _ _ _ _ _ _ ?_
  simp only [↓v55_0, ↓v55_1, ↓v55_4, ↓v55_6, ↓v55_9, ↓v55_10, ↓v55_11, ↓v55_12, ↓v55_15, ↓v55_16, ↓v55_19, ↓v55_20, ↓v55_21, ↓v55_22, ↓v55_23, ↓v55_26, ↓v55_27, ↓v55_30, ↓v55_31, ↓v55_32, ↓v55_35, ↓v55_36, ↓v55_37, ↓v55_40, ↓v55_41, ↓v55_42, ↓v55_45, ↓v55_46, ↓v55_47, ↓v55_50, ↓v55_51, ↓qI_c, ↓qL_c, ↓qR_c, ↓pA_o, ↓qC_i, ↓qC_r, ↓oA_s, ↓gI_0, ↓gI_1, ↓gI_2, ↓gI_3, ↓gI_4, ↓gI_5, ↓gI_6, ↓gI_7, ↓gI_8, ↓gI_9, ↓gI_10, ↓gR_0, ↓gR_1, ↓gR_2, ↓gR_3, ↓gR_4, ↓gR_5, ↓gR_6, ↓gR_7, ↓gR_8, ↓gR_9, ↓gR_10, ↓sL_0, ↓sL_1, ↓sL_2, ↓sL_3, ↓sL_4, ↓sL_5, ↓sL_6, ↓sL_7, ↓sL_8, ↓sL_9, ↓sL_10, ↓rrf_si, ↓rrf_sg, ↓shO_si, ↓shO_sg, ↓shO_sr, ↓shA_si, ↓shA_sg, ↓shA_sr, ↓pAs_0, ↓pAs_i, ↓pAs_r, stk_n, stk_i, stk_l, stk_r, List.nil_append, List.cons_append, true_and, and_true, true_or, or_true, Nat.zero_add, dp_s, Nat.reduceAdd, le8_0, le8_1, le8_2, le8_3, le8_4, le8_5, le8_6, le8_7, le8_8, Classical.not_not, aT40, aT41, aT42, aT44, aT54, aT58, aT59, rT54, rT58, rT59, reduceIte, Nat.reduceEqDiff, qn_42, qn_44, true_implies, not_true_eq_false, not_false_eq_true, false_implies, ↓shO_of b1, ↓rrf_of b2, ↓shA_of b3, ↓rrf_of b4', ↓shO_of w0.1, g1, g3, lt_T, le_T, T_120, nT (show ws.length < 2147483648 by omega)]
  refine ⟨fun _ => ⟨inB_n (by omega) (by omega), ?_⟩, fun c => by omega⟩
  refine k56 w0 (by omega) ht (fun M1 e1 w1 o1 => ⟨rfl, ?_⟩)
  have c1 : M1.sh q = some (7, 0) := by rw [o1.1]; exact b1
  have c2 : M1.it q 1 = nI ws.length := by rw [(o1.2.2.2 q (by omega) 1).1]; exact g1
  have c3 : M1.it q 2 = nI made := by rw [(o1.2.2.2 q (by omega) 2).1]; exact g3
  refine vc_X 40 _ _ _ _ _ _ _ ?_
  simp only [↓v55_0, ↓v55_1, ↓v55_4, ↓v55_6, ↓v55_9, ↓v55_10, ↓v55_11, ↓v55_12, ↓v55_15, ↓v55_16, ↓v55_19, ↓v55_20, ↓v55_21, ↓v55_22, ↓v55_23, ↓v55_26, ↓v55_27, ↓v55_30, ↓v55_31, ↓v55_32, ↓v55_35, ↓v55_36, ↓v55_37, ↓v55_40, ↓v55_41, ↓v55_42, ↓v55_45, ↓v55_46, ↓v55_47, ↓v55_50, ↓v55_51, ↓qI_c, ↓qL_c, ↓qR_c, ↓pA_o, ↓qC_i, ↓qC_r, ↓oA_s, ↓gI_0, ↓gI_1, ↓gI_2, ↓gI_3, ↓gI_4, ↓gI_5, ↓gI_6, ↓gI_7, ↓gI_8, ↓gI_9, ↓gI_10, ↓gR_0, ↓gR_1, ↓gR_2, ↓gR_3, ↓gR_4, ↓gR_5, ↓gR_6, ↓gR_7, ↓gR_8, ↓gR_9, ↓gR_10, ↓sL_0, ↓sL_1, ↓sL_2, ↓sL_3, ↓sL_4, ↓sL_5, ↓sL_6, ↓sL_7, ↓sL_8, ↓sL_9, ↓sL_10, ↓rrf_si, ↓rrf_sg, ↓shO_si, ↓shO_sg, ↓shO_sr, ↓shA_si, ↓shA_sg, ↓shA_sr, ↓pAs_0, ↓pAs_i, ↓pAs_r, stk_n, stk_i, stk_l, stk_r, List.nil_append, List.cons_append, true_and, and_true, true_or, or_true, Nat.zero_add, dp_s, Nat.reduceAdd, le8_0, le8_1, le8_2, le8_3, le8_4, le8_5, le8_6, le8_7, le8_8, Classical.not_not, aT40, aT41, aT42, aT44, aT54, aT58, aT59, rT54, rT58, rT59, reduceIte, Nat.reduceEqDiff, qn_42, qn_44, true_implies, not_true_eq_false, not_false_eq_true, false_implies, ↓shO_of c1, si_it, c2, c3, nI_1]
  have o2 : Of (PQ q) M ((M1.si q 2 (nI (made + 1))).si q 1 (nI (ws.length + 1))) := ((o1.mono (fun x hx => by rw [hx]; exact ⟨by omega, by omega⟩)).i ⟨by omega, by omega⟩).i ⟨by omega, by omega⟩
  have o3 : Of (fun y => y = q ∨ y = q + 2 + 2 * pm ws.length) M ((M1.si q 2 (nI (made + 1))).si q 1 (nI (ws.length + 1))) := ((o1.mono (P := fun y => y = q ∨ y = q + 2 + 2 * pm ws.length) (fun x hx => Or.inr hx)).i (Or.inl rfl)).i (Or.inl rfl)
  have o4 : Of (· = q) M1 ((M1.si q 2 (nI (made + 1))).si q 1 (nI (ws.length + 1))) := ((Of.rf_ : Of (· = q) M1 M1).i rfl).i rfl
  refine hk _ (M.it (q + 2 + 2 * pm ws.length + 1)) ⟨⟨c1, ?_, ?_, fun i hi => ?_, b5, fun s hs => ?_⟩, ?_, by simp; omega, ?_, hm, fun i x hx => ?_⟩ o2
  · show M1.rf q 0 = _
    rw [(o1.2.2.2 q (by omega) 0).2.2]
    exact b2
  · show M1.sh (q + 1) = _
    rw [o1.1]
    exact b3
  · show M1.rf (q + 1) i = _ ∧ _
    rw [(o1.2.2.2 (q + 1) (by omega) i).2.2]
    exact b4 i hi
  · by_cases hsp : s = pm ws.length
    · rw [hsp]
      exact w1.1.kf o4 (by omega)
    · exact (b6 s hs).kf o3 (by omega)
  · rw [si_it, if_pos ⟨rfl, rfl⟩]
    simp
  · rw [si_it, if_neg (by simp), si_it, if_pos ⟨rfl, rfl⟩]
  · by_cases hil : i < ws.length
    · rw [List.getElem?_append_left hil] at hx
      have hne : pm i ≠ pm ws.length := fun e => by have := b5 i ws.length (by omega) hn e; omega
      exact ⟨(g5 i x hx).1, (g5 i x hx).2.kf o3 (by omega) (by omega)⟩
    · rw [List.getElem?_append_right (by omega)] at hx
      have : i - ws.length < 1 := (List.getElem?_eq_some_iff.mp hx).1
      have hil2 : i = ws.length := by omega
      subst hil2
      rw [Nat.sub_self] at hx
      cases hx
      exact ⟨rfl, w1.kf o4 (by omega) (by omega)⟩
def setb (t : Nat) (x : WT) : WT := (x.1, x.2.1, x.2.2.1, x.2.2.2.1, x.2.2.2.2.1, fun s => x.2.2.2.2.2 s || decide (s = t))
def setR (lo hi t : Nat) (ws : List WT) : List WT := ws.mapIdx (fun k x => if lo ≤ k ∧ k < hi then setb t x else x)
theorem setR_len (lo hi t : Nat) (ws : List WT) : (setR lo hi t ws).length = ws.length := by simp [setR]
theorem setR_get (lo hi t : Nat) (ws : List WT) (k : Nat) : (setR lo hi t ws)[k]? = (ws[k]?).map (fun x => if lo ≤ k ∧ k < hi then setb t x else x) := by simp [setR]
theorem setR_0 (lo t : Nat) (ws : List WT) : setR lo lo t ws = ws := by
  apply List.ext_getElem?
  intro k
  rw [setR_get]
  cases ws[k]? with
  | none => rfl
  | some x =>
    show some (if lo ≤ k ∧ k < lo then setb t x else x) = some x
    rw [if_neg (by omega)]
theorem setR_s {lo i t : Nat} {ws : List WT} {x : WT} (hi : lo ≤ i) (hx : ws[i]? = some x) : (setR lo i t ws).set i (setb t x) = setR lo (i + 1) t ws := by
  have hlt : i < ws.length := (List.getElem?_eq_some_iff.mp hx).1
  apply List.ext_getElem?
  intro k
  by_cases hk : k = i
  · subst hk
    rw [List.getElem?_set_self (by rw [setR_len]; exact hlt), setR_get, hx]
    show _ = some (if lo ≤ k ∧ k < k + 1 then setb t x else x)
    rw [if_pos ⟨hi, by omega⟩]
  · rw [List.getElem?_set_ne (Ne.symm hk), setR_get, setR_get]
    cases ws[k]? with
    | none => rfl
    | some y =>
      show some (if lo ≤ k ∧ k < i then setb t y else y) = some (if lo ≤ k ∧ k < i + 1 then setb t y else y)
      by_cases hc : lo ≤ k ∧ k < i
      · rw [if_pos hc, if_pos ⟨hc.1, by omega⟩]
      · rw [if_neg hc, if_neg (by omega)]
theorem lop76 {d : Nat} {k : mQ} {q made t v lo : Nat} {pm : Nat → Nat} {ws : List WT} {z : Option mL} : ∀ (n i : Nat) (M : Mm), i + n = ws.length → lo ≤ i → QuC M q pm made (setR lo i t ws) → (∀ M', QuC M' q pm made (setR lo i t ws) → Wr M' v t) → (∀ M', QuC M' q pm made (setR lo ws.length t ws) → Of (PQ q) M M' → k none M') →
    (∀ (i : Nat) (M' : Mm), QuC M' q pm made (setR lo i t ws) → Wr M' v t) →
    X (d + 1) 76 11 [some (.inr (some q)), z, some (.inr (some v)), some (.inl (nI i))] [] M k := by
  intro n
  induction n with
  | zero =>
    intro i M hi hlo h hv hk hvv
    have e : i = ws.length := by omega
    subst e
    have hl := h.2.2.1
    rw [setR_len] at hl
    have g1 : M.it q 1 = nI ws.length := by rw [h.2.1, setR_len]
    refine vc_X 30 _ _ _ _ _ _ _ ?_
    simp only [↓v76_0, ↓v76_1, ↓v76_4, ↓v76_5, ↓v76_6, ↓v76_7, ↓v76_10, ↓v76_11, ↓v76_12, ↓v76_13, ↓v76_16, ↓v76_19, ↓v76_20, ↓v76_23, ↓v76_24, ↓v76_25, ↓v76_26, ↓v76_29, ↓v76_32, ↓v76_35, ↓qI_c, ↓qL_c, ↓qR_c, ↓pA_o, ↓qC_i, ↓qC_r, ↓oA_s, ↓gI_0, ↓gI_1, ↓gI_2, ↓gI_3, ↓gI_4, ↓gI_5, ↓gI_6, ↓gI_7, ↓gI_8, ↓gI_9, ↓gI_10, ↓gR_0, ↓gR_1, ↓gR_2, ↓gR_3, ↓gR_4, ↓gR_5, ↓gR_6, ↓gR_7, ↓gR_8, ↓gR_9, ↓gR_10, ↓sL_0, ↓sL_1, ↓sL_2, ↓sL_3, ↓sL_4, ↓sL_5, ↓sL_6, ↓sL_7, ↓sL_8, ↓sL_9, ↓sL_10, ↓rrf_si, ↓rrf_sg, ↓shO_si, ↓shO_sg, ↓shO_sr, ↓shA_si, ↓shA_sg, ↓shA_sr, ↓pAs_0, ↓pAs_i, ↓pAs_r, stk_n, stk_i, stk_l, stk_r, List.nil_append, List.cons_append, true_and, and_true, true_or, or_true, Nat.zero_add, dp_s, Nat.reduceAdd, le8_0, le8_1, le8_2, le8_3, le8_4, le8_5, le8_6, le8_7, le8_8, Classical.not_not, aT40, aT41, aT42, aT44, aT54, aT58, aT59, rT54, rT58, rT59, reduceIte, Nat.reduceEqDiff, qn_42, qn_44, true_implies, not_true_eq_false, not_false_eq_true, false_implies, ↓shO_of h.1.1, g1, le_T, nT (show ws.length < 2147483648 by omega)]
    exact ⟨fun _ => hk M h Of.rf_, fun c => absurd (Int.le_refl _) c⟩
  | succ n ih =>
    intro i M hi hlo h hv hk hvv
    have hl := h.2.2.1
    rw [setR_len] at hl
    have g1 : M.it q 1 = nI ws.length := by rw [h.2.1, setR_len]
    have hx : ws[i]? = some ws[i] := List.getElem?_eq_getElem (by omega)
    have hx' : (setR lo i t ws)[i]? = some ws[i] := by
      rw [setR_get, hx]
      show some (if lo ≤ i ∧ i < i then _ else _) = _
      rw [if_neg (by omega)]
    obtain ⟨r1, r2⟩ := h.1.2.2.2.1 i (by omega)
    obtain ⟨s1, w⟩ := h.2.2.2.2.2 i _ hx'
    have b4' : M.rf (q + 1) (nI i).toNatClampNeg = some (q + 2 + 2 * pm i) := by rw [nC (by omega)]; exact r1
    refine vc_X 30 _ _ _ _ _ _ _ ?_
    simp only [↓v76_0, ↓v76_1, ↓v76_4, ↓v76_5, ↓v76_6, ↓v76_7, ↓v76_10, ↓v76_11, ↓v76_12, ↓v76_13, ↓v76_16, ↓v76_19, ↓v76_20, ↓v76_23, ↓v76_24, ↓v76_25, ↓v76_26, ↓v76_29, ↓v76_32, ↓v76_35, ↓qI_c, ↓qL_c, ↓qR_c, ↓pA_o, ↓qC_i, ↓qC_r, ↓oA_s, ↓gI_0, ↓gI_1, ↓gI_2, ↓gI_3, ↓gI_4, ↓gI_5, ↓gI_6, ↓gI_7, ↓gI_8, ↓gI_9, ↓gI_10, ↓gR_0, ↓gR_1, ↓gR_2, ↓gR_3, ↓gR_4, ↓gR_5, ↓gR_6, ↓gR_7, ↓gR_8, ↓gR_9, ↓gR_10, ↓sL_0, ↓sL_1, ↓sL_2, ↓sL_3, ↓sL_4, ↓sL_5, ↓sL_6, ↓sL_7, ↓sL_8, ↓sL_9, ↓sL_10, ↓rrf_si, ↓rrf_sg, ↓shO_si, ↓shO_sg, ↓shO_sr, ↓shA_si, ↓shA_sg, ↓shA_sr, ↓pAs_0, ↓pAs_i, ↓pAs_r, stk_n, stk_i, stk_l, stk_r, List.nil_append, List.cons_append, true_and, and_true, true_or, or_true, Nat.zero_add, dp_s, Nat.reduceAdd, le8_0, le8_1, le8_2, le8_3, le8_4, le8_5, le8_6, le8_7, le8_8, Classical.not_not, aT40, aT41, aT42, aT44, aT54, aT58, aT59, rT54, rT58, rT59, reduceIte, Nat.reduceEqDiff, qn_42, qn_44, true_implies, not_true_eq_false, not_false_eq_true, false_implies, ↓shO_of h.1.1, ↓rrf_of h.1.2.1, ↓shA_of h.1.2.2.1, ↓rrf_of b4', ↓shO_of w.1.1, g1, le_T, nT (show ws.length < 2147483648 by omega), nT (show i < 2147483648 by omega)]
    refine ⟨fun c => by omega, fun _ => ⟨inB_n (by omega) (by omega), ?_⟩⟩
    refine k58 w (hv M h) (fun M1 w1 o1 => ⟨rfl, ?_⟩)
    refine vc_X 30 _ _ _ _ _ _ _ ?_
    simp only [↓v76_0, ↓v76_1, ↓v76_4, ↓v76_5, ↓v76_6, ↓v76_7, ↓v76_10, ↓v76_11, ↓v76_12, ↓v76_13, ↓v76_16, ↓v76_19, ↓v76_20, ↓v76_23, ↓v76_24, ↓v76_25, ↓v76_26, ↓v76_29, ↓v76_32, ↓v76_35, ↓qI_c, ↓qL_c, ↓qR_c, ↓pA_o, ↓qC_i, ↓qC_r, ↓oA_s, ↓gI_0, ↓gI_1, ↓gI_2, ↓gI_3, ↓gI_4, ↓gI_5, ↓gI_6, ↓gI_7, ↓gI_8, ↓gI_9, ↓gI_10, ↓gR_0, ↓gR_1, ↓gR_2, ↓gR_3, ↓gR_4, ↓gR_5, ↓gR_6, ↓gR_7, ↓gR_8, ↓gR_9, ↓gR_10, ↓sL_0, ↓sL_1, ↓sL_2, ↓sL_3, ↓sL_4, ↓sL_5, ↓sL_6, ↓sL_7, ↓sL_8, ↓sL_9, ↓sL_10, ↓rrf_si, ↓rrf_sg, ↓shO_si, ↓shO_sg, ↓shO_sr, ↓shA_si, ↓shA_sg, ↓shA_sr, ↓pAs_0, ↓pAs_i, ↓pAs_r, stk_n, stk_i, stk_l, stk_r, List.nil_append, List.cons_append, true_and, and_true, true_or, or_true, Nat.zero_add, dp_s, Nat.reduceAdd, le8_0, le8_1, le8_2, le8_3, le8_4, le8_5, le8_6, le8_7, le8_8, Classical.not_not, aT40, aT41, aT42, aT44, aT54, aT58, aT59, rT54, rT58, rT59, reduceIte, Nat.reduceEqDiff, qn_42, qn_44, true_implies, not_true_eq_false, not_false_eq_true, false_implies, nI_1]
    have h1 : QuC M1 q pm made (setR lo (i + 1) t ws) := by
      rw [← setR_s hlo hx]
      exact h.upd (by rw [setR_len]; omega) (x' := setb t ws[i]) s1 w1 (o1.mono (fun y hy => Or.inl hy))
    exact ih (i + 1) M1 (by omega) (by omega) h1 (fun M' h' => hvv _ M' h') (fun M' h' o' => hk M' h' ((o1.mono (fun y hy => by rw [hy]; exact ⟨by omega, by omega⟩)).trans o' (fun _ x => x))) hvv
theorem QuC.seat {M : Mm} {q made t : Nat} {pm : Nat → Nat} {ws : List WT} (h : QuC M q pm made ws) (ht : t < 120) : Wr M (q + 2 + 2 * t) t := h.1.2.2.2.2.2 t ht
theorem k76 {d : Nat} {M : Mm} {k : mQ} {q made m t : Nat} {pm : Nat → Nat} {ws : List WT} (h : QuC M q pm made ws) (hm : m ≤ ws.length) (ht : t < 120) (hk : ∀ M', QuC M' q pm made (setR (ws.length - m) ws.length t ws) → Of (PQ q) M M' → k none M') : XC (d + 2) 76 [.inr (some q), .inl (nI m), .inr (some (q + 2 + 2 * t))] M k := by
  have hl := h.2.2.1
  refine xc ?_
  show X (d + 1) 76 0 [some (.inr (some q)), some (.inl (nI m)), some (.inr (some (q + 2 + 2 * t))), none] [] M k
  refine vc_X 30 _ _ _ _ _ _ _ ?_
  simp only [↓v76_0, ↓v76_1, ↓v76_4, ↓v76_5, ↓v76_6, ↓v76_7, ↓v76_10, ↓v76_11, ↓v76_12, ↓v76_13, ↓v76_16, ↓v76_19, ↓v76_20, ↓v76_23, ↓v76_24, ↓v76_25, ↓v76_26, ↓v76_29, ↓v76_32, ↓v76_35, ↓qI_c, ↓qL_c, ↓qR_c, ↓pA_o, ↓qC_i, ↓qC_r, ↓oA_s, ↓gI_0, ↓gI_1, ↓gI_2, ↓gI_3, ↓gI_4, ↓gI_5, ↓gI_6, ↓gI_7, ↓gI_8, ↓gI_9, ↓gI_10, ↓gR_0, ↓gR_1, ↓gR_2, ↓gR_3, ↓gR_4, ↓gR_5, ↓gR_6, ↓gR_7, ↓gR_8, ↓gR_9, ↓gR_10, ↓sL_0, ↓sL_1, ↓sL_2, ↓sL_3, ↓sL_4, ↓sL_5, ↓sL_6, ↓sL_7, ↓sL_8, ↓sL_9, ↓sL_10, ↓rrf_si, ↓rrf_sg, ↓shO_si, ↓shO_sg, ↓shO_sr, ↓shA_si, ↓shA_sg, ↓shA_sr, ↓pAs_0, ↓pAs_i, ↓pAs_r, stk_n, stk_i, stk_l, stk_r, List.nil_append, List.cons_append, true_and, and_true, true_or, or_true, Nat.zero_add, dp_s, Nat.reduceAdd, le8_0, le8_1, le8_2, le8_3, le8_4, le8_5, le8_6, le8_7, le8_8, Classical.not_not, aT40, aT41, aT42, aT44, aT54, aT58, aT59, rT54, rT58, rT59, reduceIte, Nat.reduceEqDiff, qn_42, qn_44, true_implies, not_true_eq_false, not_false_eq_true, false_implies, ↓shO_of h.1.1, h.2.1, pk_sub hm]
  have e : imax (nI (ws.length - m)) 0 = nI (ws.length - m) := by
    unfold imax
    rw [if_neg (by rw [lt_T, T_0, nT (by omega)]; omega)]
  rw [e]
  refine lop76 m (ws.length - m) M (by omega) (Nat.le_refl _) (by rw [setR_0]; exact h) (fun M' h' => h'.seat ht) (fun M' h' o' => hk M' h' o') (fun i M' h' => h'.seat ht)
/-- is the write at place i ready -/
def rdyP (ws : List WT) (i : Nat) : Bool := match ws[i]? with
  | some x => cnt x.2.2.2.2.2 128 == 0
  | none => false
theorem rdy_get {ws : List WT} {i : Nat} {x : WT} (h : ws[i]? = some x) : rdyP ws i = (cnt x.2.2.2.2.2 128 == 0) := by unfold rdyP; rw [h]
theorem lop107 {d : Nat} {M : Mm} {k : mQ} {q made : Nat} {pm : Nat → Nat} {ws : List WT} (h : QuC M q pm made ws) (hk : k (some (.inl (nI (cnt (rdyP ws) ws.length)))) M) : ∀ m i, i + m = ws.length → X (d + 2) 107 4 [some (.inr (some q)), some (.inl (nI (cnt (rdyP ws) i))), some (.inl (nI i))] [] M k := by
  obtain ⟨⟨b1, b2, b3, b4, b5, b6⟩, g1, g2, g3, g4, g5⟩ := h
  intro m
  induction m with
  | zero =>
    intro i hi
    have e : i = ws.length := by omega
    subst e
    refine vc_X 30 _ _ _ _ _ _ _ ?_
    simp only [↓v107_0, ↓v107_1, ↓v107_2, ↓v107_3, ↓v107_4, ↓v107_5, ↓v107_6, ↓v107_9, ↓v107_12, ↓v107_13, ↓v107_16, ↓v107_17, ↓v107_18, ↓v107_21, ↓v107_24, ↓v107_27, ↓v107_30, ↓v107_33, ↓v107_34, ↓qI_c, ↓qL_c, ↓qR_c, ↓pA_o, ↓qC_i, ↓qC_r, ↓oA_s, ↓gI_0, ↓gI_1, ↓gI_2, ↓gI_3, ↓gI_4, ↓gI_5, ↓gI_6, ↓gI_7, ↓gI_8, ↓gI_9, ↓gI_10, ↓gR_0, ↓gR_1, ↓gR_2, ↓gR_3, ↓gR_4, ↓gR_5, ↓gR_6, ↓gR_7, ↓gR_8, ↓gR_9, ↓gR_10, ↓sL_0, ↓sL_1, ↓sL_2, ↓sL_3, ↓sL_4, ↓sL_5, ↓sL_6, ↓sL_7, ↓sL_8, ↓sL_9, ↓sL_10, ↓rrf_si, ↓rrf_sg, ↓shO_si, ↓shO_sg, ↓shO_sr, ↓shA_si, ↓shA_sg, ↓shA_sr, ↓pAs_0, ↓pAs_i, ↓pAs_r, stk_n, stk_i, stk_l, stk_r, List.nil_append, List.cons_append, true_and, and_true, true_or, or_true, Nat.zero_add, dp_s, Nat.reduceAdd, le8_0, le8_1, le8_2, le8_3, le8_4, le8_5, le8_6, le8_7, le8_8, Classical.not_not, aT40, aT41, aT42, aT44, aT54, aT58, aT59, rT54, rT58, rT59, reduceIte, Nat.reduceEqDiff, qn_42, qn_44, true_implies, not_true_eq_false, not_false_eq_true, false_implies, ↓shO_of b1, g1, le_T, nT (show ws.length < 2147483648 by omega)]
    exact ⟨fun _ => hk, fun c => absurd (Int.le_refl _) c⟩
  | succ m ih =>
    intro i hi
    have b4' : M.rf (q + 1) (nI i).toNatClampNeg = some (q + 2 + 2 * pm i) := by rw [nC (by omega)]; exact (b4 i (by omega)).1
    have hx : ws[i]? = some ws[i] := List.getElem?_eq_getElem (by omega)
    obtain ⟨-, w⟩ := g5 i _ hx
    refine vc_X 30 _ _ _ _ _ _ _ ?_
    simp only [↓v107_0, ↓v107_1, ↓v107_2, ↓v107_3, ↓v107_4, ↓v107_5, ↓v107_6, ↓v107_9, ↓v107_12, ↓v107_13, ↓v107_16, ↓v107_17, ↓v107_18, ↓v107_21, ↓v107_24, ↓v107_27, ↓v107_30, ↓v107_33, ↓v107_34, ↓qI_c, ↓qL_c, ↓qR_c, ↓pA_o, ↓qC_i, ↓qC_r, ↓oA_s, ↓gI_0, ↓gI_1, ↓gI_2, ↓gI_3, ↓gI_4, ↓gI_5, ↓gI_6, ↓gI_7, ↓gI_8, ↓gI_9, ↓gI_10, ↓gR_0, ↓gR_1, ↓gR_2, ↓gR_3, ↓gR_4, ↓gR_5, ↓gR_6, ↓gR_7, ↓gR_8, ↓gR_9, ↓gR_10, ↓sL_0, ↓sL_1, ↓sL_2, ↓sL_3, ↓sL_4, ↓sL_5, ↓sL_6, ↓sL_7, ↓sL_8, ↓sL_9, ↓sL_10, ↓rrf_si, ↓rrf_sg, ↓shO_si, ↓shO_sg, ↓shO_sr, ↓shA_si, ↓shA_sg, ↓shA_sr, ↓pAs_0, ↓pAs_i, ↓pAs_r, stk_n, stk_i, stk_l, stk_r, List.nil_append, List.cons_append, true_and, and_true, true_or, or_true, Nat.zero_add, dp_s, Nat.reduceAdd, le8_0, le8_1, le8_2, le8_3, le8_4, le8_5, le8_6, le8_7, le8_8, Classical.not_not, aT40, aT41, aT42, aT44, aT54, aT58, aT59, rT54, rT58, rT59, reduceIte, Nat.reduceEqDiff, qn_42, qn_44, true_implies, not_true_eq_false, not_false_eq_true, false_implies, ↓shO_of b1, ↓rrf_of b2, ↓shA_of b3, ↓rrf_of b4', ↓shO_of w.1.1, g1, le_T, nT (show i < 2147483648 by omega), nT (show ws.length < 2147483648 by omega)]
    refine ⟨fun c => by omega, fun _ => ⟨inB_n (by omega) (by omega), k94 w ⟨_, rfl, ?_⟩⟩⟩
    have hc := cnt_le ws[i].2.2.2.2.2 128
    have ih1 := ih (i + 1) (by omega)
    have e1 : cnt (rdyP ws) (i + 1) = cnt (rdyP ws) i + (if rdyP ws i then 1 else 0) := rfl
    rw [e1, rdy_get hx] at ih1
    refine vc_X 30 _ _ _ _ _ _ _ ?_
    simp only [↓v107_0, ↓v107_1, ↓v107_2, ↓v107_3, ↓v107_4, ↓v107_5, ↓v107_6, ↓v107_9, ↓v107_12, ↓v107_13, ↓v107_16, ↓v107_17, ↓v107_18, ↓v107_21, ↓v107_24, ↓v107_27, ↓v107_30, ↓v107_33, ↓v107_34, ↓qI_c, ↓qL_c, ↓qR_c, ↓pA_o, ↓qC_i, ↓qC_r, ↓oA_s, ↓gI_0, ↓gI_1, ↓gI_2, ↓gI_3, ↓gI_4, ↓gI_5, ↓gI_6, ↓gI_7, ↓gI_8, ↓gI_9, ↓gI_10, ↓gR_0, ↓gR_1, ↓gR_2, ↓gR_3, ↓gR_4, ↓gR_5, ↓gR_6, ↓gR_7, ↓gR_8, ↓gR_9, ↓gR_10, ↓sL_0, ↓sL_1, ↓sL_2, ↓sL_3, ↓sL_4, ↓sL_5, ↓sL_6, ↓sL_7, ↓sL_8, ↓sL_9, ↓sL_10, ↓rrf_si, ↓rrf_sg, ↓shO_si, ↓shO_sg, ↓shO_sr, ↓shA_si, ↓shA_sg, ↓shA_sr, ↓pAs_0, ↓pAs_i, ↓pAs_r, stk_n, stk_i, stk_l, stk_r, List.nil_append, List.cons_append, true_and, and_true, true_or, or_true, Nat.zero_add, dp_s, Nat.reduceAdd, le8_0, le8_1, le8_2, le8_3, le8_4, le8_5, le8_6, le8_7, le8_8, Classical.not_not, aT40, aT41, aT42, aT44, aT54, aT58, aT59, rT54, rT58, rT59, reduceIte, Nat.reduceEqDiff, qn_42, qn_44, true_implies, not_true_eq_false, not_false_eq_true, false_implies, eq_T, T_0, nT (show cnt ws[i].2.2.2.2.2 128 < 2147483648 by omega), nI_1]
    refine ⟨fun c => ?_, fun c => ?_⟩
    · rw [show (cnt ws[i].2.2.2.2.2 128 == 0) = false by simp; omega] at ih1
      exact ih1
    · rw [show (cnt ws[i].2.2.2.2.2 128 == 0) = true by simp; omega] at ih1
      exact ih1
theorem k107 {d : Nat} {M : Mm} {k : mQ} {q made : Nat} {pm : Nat → Nat} {ws : List WT} (h : QuC M q pm made ws) (hk : k (some (.inl (nI (cnt (rdyP ws) ws.length)))) M) : XC (d + 3) 107 [.inr (some q)] M k := by
  refine xc ?_
  show X (d + 2) 107 0 [some (.inr (some q)), none, none] [] M k
  refine vc_X 30 _ _ _ _ _ _ _ ?_
  simp only [↓v107_0, ↓v107_1, ↓v107_2, ↓v107_3, ↓v107_4, ↓v107_5, ↓v107_6, ↓v107_9, ↓v107_12, ↓v107_13, ↓v107_16, ↓v107_17, ↓v107_18, ↓v107_21, ↓v107_24, ↓v107_27, ↓v107_30, ↓v107_33, ↓v107_34, ↓qI_c, ↓qL_c, ↓qR_c, ↓pA_o, ↓qC_i, ↓qC_r, ↓oA_s, ↓gI_0, ↓gI_1, ↓gI_2, ↓gI_3, ↓gI_4, ↓gI_5, ↓gI_6, ↓gI_7, ↓gI_8, ↓gI_9, ↓gI_10, ↓gR_0, ↓gR_1, ↓gR_2, ↓gR_3, ↓gR_4, ↓gR_5, ↓gR_6, ↓gR_7, ↓gR_8, ↓gR_9, ↓gR_10, ↓sL_0, ↓sL_1, ↓sL_2, ↓sL_3, ↓sL_4, ↓sL_5, ↓sL_6, ↓sL_7, ↓sL_8, ↓sL_9, ↓sL_10, ↓rrf_si, ↓rrf_sg, ↓shO_si, ↓shO_sg, ↓shO_sr, ↓shA_si, ↓shA_sg, ↓shA_sr, ↓pAs_0, ↓pAs_i, ↓pAs_r, stk_n, stk_i, stk_l, stk_r, List.nil_append, List.cons_append, true_and, and_true, true_or, or_true, Nat.zero_add, dp_s, Nat.reduceAdd, le8_0, le8_1, le8_2, le8_3, le8_4, le8_5, le8_6, le8_7, le8_8, Classical.not_not, aT40, aT41, aT42, aT44, aT54, aT58, aT59, rT54, rT58, rT59, reduceIte, Nat.reduceEqDiff, qn_42, qn_44, true_implies, not_true_eq_false, not_false_eq_true, false_implies]
  exact lop107 h hk ws.length 0 (Nat.zero_add _)
/-- the place of the ready write number x -/
def rpF (p : Nat → Bool) (x : Int32) (i m : Nat) : Option Nat := fst_ (fun j => p j && decide (nI (cnt p j) = x)) i m
theorem lop93 {d : Nat} {M : Mm} {k : mQ} {q made : Nat} {x : Int32} {pm : Nat → Nat} {ws : List WT} (h : QuC M q pm made ws) : ∀ m i, i + m = ws.length → k (some (.inl (oI (rpF (rdyP ws) x i m)))) M → X (d + 2) 93 4 [some (.inr (some q)), some (.inl x), some (.inl (nI (cnt (rdyP ws) i))), some (.inl (nI i))] [] M k := by
  obtain ⟨⟨b1, b2, b3, b4, b5, b6⟩, g1, g2, g3, g4, g5⟩ := h
  intro m
  induction m with
  | zero =>
    intro i hi hk
    have e : i = ws.length := by omega
    subst e
    refine vc_X 30 _ _ _ _ _ _ _ ?_
    simp only [↓v93_0, ↓v93_1, ↓v93_2, ↓v93_3, ↓v93_4, ↓v93_5, ↓v93_6, ↓v93_9, ↓v93_12, ↓v93_13, ↓v93_16, ↓v93_17, ↓v93_18, ↓v93_21, ↓v93_24, ↓v93_25, ↓v93_26, ↓v93_29, ↓v93_30, ↓v93_31, ↓v93_34, ↓v93_37, ↓v93_40, ↓v93_41, ↓qI_c, ↓qL_c, ↓qR_c, ↓pA_o, ↓qC_i, ↓qC_r, ↓oA_s, ↓gI_0, ↓gI_1, ↓gI_2, ↓gI_3, ↓gI_4, ↓gI_5, ↓gI_6, ↓gI_7, ↓gI_8, ↓gI_9, ↓gI_10, ↓gR_0, ↓gR_1, ↓gR_2, ↓gR_3, ↓gR_4, ↓gR_5, ↓gR_6, ↓gR_7, ↓gR_8, ↓gR_9, ↓gR_10, ↓sL_0, ↓sL_1, ↓sL_2, ↓sL_3, ↓sL_4, ↓sL_5, ↓sL_6, ↓sL_7, ↓sL_8, ↓sL_9, ↓sL_10, ↓rrf_si, ↓rrf_sg, ↓shO_si, ↓shO_sg, ↓shO_sr, ↓shA_si, ↓shA_sg, ↓shA_sr, ↓pAs_0, ↓pAs_i, ↓pAs_r, stk_n, stk_i, stk_l, stk_r, List.nil_append, List.cons_append, true_and, and_true, true_or, or_true, Nat.zero_add, dp_s, Nat.reduceAdd, le8_0, le8_1, le8_2, le8_3, le8_4, le8_5, le8_6, le8_7, le8_8, Classical.not_not, aT40, aT41, aT42, aT44, aT54, aT58, aT59, rT54, rT58, rT59, reduceIte, Nat.reduceEqDiff, qn_42, qn_44, true_implies, not_true_eq_false, not_false_eq_true, false_implies, ↓shO_of b1, g1, le_T, nT (show ws.length < 2147483648 by omega)]
    exact ⟨fun _ => hk, fun c => absurd (Int.le_refl _) c⟩
  | succ m ih =>
    intro i hi hk
    have b4' : M.rf (q + 1) (nI i).toNatClampNeg = some (q + 2 + 2 * pm i) := by rw [nC (by omega)]; exact (b4 i (by omega)).1
    have hx : ws[i]? = some ws[i] := List.getElem?_eq_getElem (by omega)
    obtain ⟨-, w⟩ := g5 i _ hx
    refine vc_X 30 _ _ _ _ _ _ _ ?_
    simp only [↓v93_0, ↓v93_1, ↓v93_2, ↓v93_3, ↓v93_4, ↓v93_5, ↓v93_6, ↓v93_9, ↓v93_12, ↓v93_13, ↓v93_16, ↓v93_17, ↓v93_18, ↓v93_21, ↓v93_24, ↓v93_25, ↓v93_26, ↓v93_29, ↓v93_30, ↓v93_31, ↓v93_34, ↓v93_37, ↓v93_40, ↓v93_41, ↓qI_c, ↓qL_c, ↓qR_c, ↓pA_o, ↓qC_i, ↓qC_r, ↓oA_s, ↓gI_0, ↓gI_1, ↓gI_2, ↓gI_3, ↓gI_4, ↓gI_5, ↓gI_6, ↓gI_7, ↓gI_8, ↓gI_9, ↓gI_10, ↓gR_0, ↓gR_1, ↓gR_2, ↓gR_3, ↓gR_4, ↓gR_5, ↓gR_6, ↓gR_7, ↓gR_8, ↓gR_9, ↓gR_10, ↓sL_0, ↓sL_1, ↓sL_2, ↓sL_3, ↓sL_4, ↓sL_5, ↓sL_6, ↓sL_7, ↓sL_8, ↓sL_9, ↓sL_10, ↓rrf_si, ↓rrf_sg, ↓shO_si, ↓shO_sg, ↓shO_sr, ↓shA_si, ↓shA_sg, ↓shA_sr, ↓pAs_0, ↓pAs_i, ↓pAs_r, stk_n, stk_i, stk_l, stk_r, List.nil_append, List.cons_append, true_and, and_true, true_or, or_true, Nat.zero_add, dp_s, Nat.reduceAdd, le8_0, le8_1, le8_2, le8_3, le8_4, le8_5, le8_6, le8_7, le8_8, Classical.not_not, aT40, aT41, aT42, aT44, aT54, aT58, aT59, rT54, rT58, rT59, reduceIte, Nat.reduceEqDiff, qn_42, qn_44, true_implies, not_true_eq_false, not_false_eq_true, false_implies, ↓shO_of b1, ↓rrf_of b2, ↓shA_of b3, ↓rrf_of b4', ↓shO_of w.1.1, g1, le_T, nT (show i < 2147483648 by omega), nT (show ws.length < 2147483648 by omega)]
    refine ⟨fun c => by omega, fun _ => ⟨inB_n (by omega) (by omega), k94 w ⟨_, rfl, ?_⟩⟩⟩
    have hc := cnt_le ws[i].2.2.2.2.2 128
    have hr := rdy_get hx
    have ih1 := ih (i + 1) (by omega)
    have e1 : cnt (rdyP ws) (i + 1) = cnt (rdyP ws) i + (if rdyP ws i then 1 else 0) := rfl
    have e2 : rpF (rdyP ws) x i (m + 1) = if (rdyP ws i && decide (nI (cnt (rdyP ws) i) = x)) then some i else rpF (rdyP ws) x (i + 1) m := rfl
    rw [e1] at ih1
    rw [e2] at hk
    refine vc_X 30 _ _ _ _ _ _ _ ?_
    simp only [↓v93_0, ↓v93_1, ↓v93_2, ↓v93_3, ↓v93_4, ↓v93_5, ↓v93_6, ↓v93_9, ↓v93_12, ↓v93_13, ↓v93_16, ↓v93_17, ↓v93_18, ↓v93_21, ↓v93_24, ↓v93_25, ↓v93_26, ↓v93_29, ↓v93_30, ↓v93_31, ↓v93_34, ↓v93_37, ↓v93_40, ↓v93_41, ↓qI_c, ↓qL_c, ↓qR_c, ↓pA_o, ↓qC_i, ↓qC_r, ↓oA_s, ↓gI_0, ↓gI_1, ↓gI_2, ↓gI_3, ↓gI_4, ↓gI_5, ↓gI_6, ↓gI_7, ↓gI_8, ↓gI_9, ↓gI_10, ↓gR_0, ↓gR_1, ↓gR_2, ↓gR_3, ↓gR_4, ↓gR_5, ↓gR_6, ↓gR_7, ↓gR_8, ↓gR_9, ↓gR_10, ↓sL_0, ↓sL_1, ↓sL_2, ↓sL_3, ↓sL_4, ↓sL_5, ↓sL_6, ↓sL_7, ↓sL_8, ↓sL_9, ↓sL_10, ↓rrf_si, ↓rrf_sg, ↓shO_si, ↓shO_sg, ↓shO_sr, ↓shA_si, ↓shA_sg, ↓shA_sr, ↓pAs_0, ↓pAs_i, ↓pAs_r, stk_n, stk_i, stk_l, stk_r, List.nil_append, List.cons_append, true_and, and_true, true_or, or_true, Nat.zero_add, dp_s, Nat.reduceAdd, le8_0, le8_1, le8_2, le8_3, le8_4, le8_5, le8_6, le8_7, le8_8, Classical.not_not, aT40, aT41, aT42, aT44, aT54, aT58, aT59, rT54, rT58, rT59, reduceIte, Nat.reduceEqDiff, qn_42, qn_44, true_implies, not_true_eq_false, not_false_eq_true, false_implies, nI_1]
    have tz : nI (cnt ws[i].2.2.2.2.2 128) = 0 ↔ cnt ws[i].2.2.2.2.2 128 = 0 := by rw [eq_T, T_0, nT (by omega)]; omega
    refine ⟨fun c => ?_, fun c => ⟨fun c2 => ?_, fun c2 => ?_⟩⟩
    · have hf : rdyP ws i = false := by rw [hr]; simp; exact fun q => c (tz.mpr q)
      rw [hf] at ih1 hk
      exact ih1 hk
    · have ht : rdyP ws i = true := by rw [hr]; simp; exact tz.mp c
      rw [ht] at ih1 hk
      rw [show decide (nI (cnt (rdyP ws) i) = x) = false by simp; exact c2] at hk
      exact ih1 hk
    · have ht : rdyP ws i = true := by rw [hr]; simp; exact tz.mp c
      rw [ht, show decide (nI (cnt (rdyP ws) i) = x) = true by simp; exact c2] at hk
      exact hk
theorem k93 {d : Nat} {M : Mm} {k : mQ} {q made : Nat} {x : Int32} {pm : Nat → Nat} {ws : List WT} (h : QuC M q pm made ws) (hk : k (some (.inl (oI (rpF (rdyP ws) x 0 ws.length)))) M) : XC (d + 3) 93 [.inr (some q), .inl x] M k := by
  refine xc ?_
  show X (d + 2) 93 0 [some (.inr (some q)), some (.inl x), none, none] [] M k
  refine vc_X 30 _ _ _ _ _ _ _ ?_
  simp only [↓v93_0, ↓v93_1, ↓v93_2, ↓v93_3, ↓v93_4, ↓v93_5, ↓v93_6, ↓v93_9, ↓v93_12, ↓v93_13, ↓v93_16, ↓v93_17, ↓v93_18, ↓v93_21, ↓v93_24, ↓v93_25, ↓v93_26, ↓v93_29, ↓v93_30, ↓v93_31, ↓v93_34, ↓v93_37, ↓v93_40, ↓v93_41, ↓qI_c, ↓qL_c, ↓qR_c, ↓pA_o, ↓qC_i, ↓qC_r, ↓oA_s, ↓gI_0, ↓gI_1, ↓gI_2, ↓gI_3, ↓gI_4, ↓gI_5, ↓gI_6, ↓gI_7, ↓gI_8, ↓gI_9, ↓gI_10, ↓gR_0, ↓gR_1, ↓gR_2, ↓gR_3, ↓gR_4, ↓gR_5, ↓gR_6, ↓gR_7, ↓gR_8, ↓gR_9, ↓gR_10, ↓sL_0, ↓sL_1, ↓sL_2, ↓sL_3, ↓sL_4, ↓sL_5, ↓sL_6, ↓sL_7, ↓sL_8, ↓sL_9, ↓sL_10, ↓rrf_si, ↓rrf_sg, ↓shO_si, ↓shO_sg, ↓shO_sr, ↓shA_si, ↓shA_sg, ↓shA_sr, ↓pAs_0, ↓pAs_i, ↓pAs_r, stk_n, stk_i, stk_l, stk_r, List.nil_append, List.cons_append, true_and, and_true, true_or, or_true, Nat.zero_add, dp_s, Nat.reduceAdd, le8_0, le8_1, le8_2, le8_3, le8_4, le8_5, le8_6, le8_7, le8_8, Classical.not_not, aT40, aT41, aT42, aT44, aT54, aT58, aT59, rT54, rT58, rT59, reduceIte, Nat.reduceEqDiff, qn_42, qn_44, true_implies, not_true_eq_false, not_false_eq_true, false_implies]
  exact lop93 h ws.length 0 (Nat.zero_add _) hk
