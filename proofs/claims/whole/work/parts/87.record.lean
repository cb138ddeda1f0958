/-! makeRecord -/
/-- the seats of those of the first n that are such -/
def rcB (pm : Nat → Nat) (c : Nat → Bool) : Nat → Nat → Bool
  | 0, _ => false
  | k + 1, s => rcB pm c k s || (c k && decide (s = pm k))
/-- for which of the others a record waits: the table's own, those of the extent -/
def cR (ws : List WT) (own : Nat) (e0 : Option Nat) (k : Nat) : Bool := decide (ws.length - own ≤ k) || match ws[k]? with
  | some x => decide (x.2.2.1 < 128) && (e0 == some (x.2.2.1 / 16))
  | none => false
/-- the record's write, with those of the first i looked at -/
def rX (pm : Nat → Nat) (made t a own : Nat) (lw e0 : Option Nat) (by_ : Nat → Int32) (ws : List WT) (i : Nat) : WT := (pm ws.length, made, t, some a, by_, fun s => seB pm (nuA ws lw) s || rcB pm (cR ws own e0) i s)
section
variable {D : DT} {C : List Nat × Nat} {L : (Nat → Nat) × Option Nat} {I : IT} {T : List Nat × List Nat} {E : (Nat → Option Nat) × (Nat → Bool)} {F : FT}
theorem lop78 {d : Nat} {k : mQ} {b t a own made : Nat} {pm : Nat → Nat} {lw e0 : Option Nat} {by_ : Nat → Int32} {ws : List WT} (hown : own ≤ ws.length) (hn : ws.length < 120) (he0 : ∀ e, e0 = some e → e < 8) : ∀ (m i : Nat) (M : Mm) (z7 : Option mL), i + m = ws.length → CP M b D (pm, made + 1, ws ++ [rX pm made t a own lw e0 by_ ws i]) C L I T E F → (∀ M', CP M' b D (pm, made + 1, ws ++ [rX pm made t a own lw e0 by_ ws ws.length]) C L I T E F → Of (PQ (b + 7)) M M' → k none ((M'.sr b 14 (some a)).si b 15 (nI made))) →
    X (d + 2) 78 102 [some (.inr (some b)), some (.inl (nI own)), some (.inl (oI e0)), some (.inr (some a)), some (.inl (nI ws.length)), some (.inr (some (b + 7 + 2 + 2 * pm ws.length))), some (.inl (nI i)), z7] [] M k := by
  intro m
  induction m with
  | zero =>
    intro i M z7 hi h hk
    have e : i = ws.length := by omega
    subst e
    have hq : QuC M (b + 7) pm (made + 1) (ws ++ [rX pm made t a own lw e0 by_ ws ws.length]) := h.2.2.1.1
    have wx := (hq.2.2.2.2.2 ws.length (rX pm made t a own lw e0 by_ ws ws.length) (by rw [List.getElem?_append_right (Nat.le_refl _), Nat.sub_self]; rfl)).2
    have wn : M.it (b + 7 + 2 + 2 * pm ws.length) 2 = nI made := wx.2.1
    refine vc_X 40 _ _ _ _ _ _ _ ?_
    simp only [↓v78_0, ↓v78_3, ↓v78_4, ↓v78_5, ↓v78_8, ↓v78_11, ↓v78_12, ↓v78_13, ↓v78_14, ↓v78_17, ↓v78_18, ↓v78_21, ↓v78_22, ↓v78_25, ↓v78_28, ↓v78_31, ↓v78_34, ↓v78_35, ↓v78_38, ↓v78_41, ↓v78_44, ↓v78_45, ↓v78_46, ↓v78_49, ↓v78_52, ↓v78_54, ↓v78_55, ↓v78_58, ↓v78_61, ↓v78_62, ↓v78_65, ↓v78_66, ↓v78_69, ↓v78_71, ↓v78_73, ↓v78_76, ↓v78_77, ↓v78_79, ↓v78_80, ↓v78_83, ↓v78_85, ↓v78_86, ↓v78_89, ↓v78_90, ↓v78_93, ↓v78_96, ↓v78_99, ↓v78_100, ↓v78_102, ↓v78_104, ↓v78_106, ↓v78_109, ↓v78_110, ↓v78_113, ↓v78_115, ↓v78_118, ↓v78_120, ↓v78_122, ↓v78_125, ↓v78_127, ↓v78_129, ↓v78_130, ↓v78_131, ↓v78_134, ↓v78_136, ↓v78_137, ↓v78_140, ↓v78_143, ↓v78_145, ↓v78_147, ↓v78_150, ↓v78_153, ↓v78_156, ↓v78_157, ↓v78_158, ↓v78_161, ↓v78_162, ↓v78_164, ↓v78_167, ↓v78_170, ↓qI_c, ↓qL_c, ↓qR_c, ↓pA_o, ↓qC_i, ↓qC_r, ↓oA_s, ↓gI_0, ↓gI_1, ↓gI_2, ↓gI_3, ↓gI_4, ↓gI_5, ↓gI_6, ↓gI_7, ↓gI_8, ↓gI_9, ↓gI_10, ↓gR_0, ↓gR_1, ↓gR_2, ↓gR_3, ↓gR_4, ↓gR_5, ↓gR_6, ↓gR_7, ↓gR_8, ↓gR_9, ↓gR_10, ↓sL_0, ↓sL_1, ↓sL_2, ↓sL_3, ↓sL_4, ↓sL_5, ↓sL_6, ↓sL_7, ↓sL_8, ↓sL_9, ↓sL_10, ↓rrf_si, ↓rrf_sg, ↓shO_si, ↓shO_sg, ↓shO_sr, ↓shA_si, ↓shA_sg, ↓shA_sr, ↓pAs_0, ↓pAs_i, ↓pAs_r, stk_n, stk_i, stk_l, stk_r, List.nil_append, List.cons_append, true_and, and_true, true_or, or_true, Nat.zero_add, dp_s, Nat.reduceAdd, le8_0, le8_1, le8_2, le8_3, le8_4, le8_5, le8_6, le8_7, le8_8, Classical.not_not, aT40, aT41, aT42, aT44, aT54, aT58, aT59, rT54, rT58, rT59, reduceIte, Nat.reduceEqDiff, qn_42, qn_44, true_implies, not_true_eq_false, not_false_eq_true, false_implies, le_T, nT (show ws.length < 2147483648 by omega), Int.le_refl, ↓shO_of h.1.1.1, ↓shO_of wx.1.1, wn]
    rw [sr_it, wn]
    exact hk M h Of.rf_
  | succ m ih =>
    intro i M z7 hi h hk
    have hq : QuC M (b + 7) pm (made + 1) (ws ++ [rX pm made t a own lw e0 by_ ws i]) := h.2.2.1.1
    have hxi : ws[i]? = some ws[i] := List.getElem?_eq_getElem (by omega)
    have hxi' : (ws ++ [rX pm made t a own lw e0 by_ ws i])[i]? = some ws[i] := by rw [List.getElem?_append_left (by omega)]; exact hxi
    have wx := (hq.2.2.2.2.2 ws.length (rX pm made t a own lw e0 by_ ws i) (by rw [List.getElem?_append_right (Nat.le_refl _), Nat.sub_self]; rfl)).2
    have next : ∀ M2 z, CP M2 b D (pm, made + 1, ws ++ [rX pm made t a own lw e0 by_ ws (i + 1)]) C L I T E F → Of (PQ (b + 7)) M M2 → X (d + 2) 78 150 [some (.inr (some b)), some (.inl (nI own)), some (.inl (oI e0)), some (.inr (some a)), some (.inl (nI ws.length)), some (.inr (some (b + 7 + 2 + 2 * pm ws.length))), some (.inl (nI i)), z] [] M2 k := by
      intro M2 z h2 o2
      refine vc_X 30 _ _ _ _ _ _ _ ?_
      simp only [↓v78_0, ↓v78_3, ↓v78_4, ↓v78_5, ↓v78_8, ↓v78_11, ↓v78_12, ↓v78_13, ↓v78_14, ↓v78_17, ↓v78_18, ↓v78_21, ↓v78_22, ↓v78_25, ↓v78_28, ↓v78_31, ↓v78_34, ↓v78_35, ↓v78_38, ↓v78_41, ↓v78_44, ↓v78_45, ↓v78_46, ↓v78_49, ↓v78_52, ↓v78_54, ↓v78_55, ↓v78_58, ↓v78_61, ↓v78_62, ↓v78_65, ↓v78_66, ↓v78_69, ↓v78_71, ↓v78_73, ↓v78_76, ↓v78_77, ↓v78_79, ↓v78_80, ↓v78_83, ↓v78_85, ↓v78_86, ↓v78_89, ↓v78_90, ↓v78_93, ↓v78_96, ↓v78_99, ↓v78_100, ↓v78_102, ↓v78_104, ↓v78_106, ↓v78_109, ↓v78_110, ↓v78_113, ↓v78_115, ↓v78_118, ↓v78_120, ↓v78_122, ↓v78_125, ↓v78_127, ↓v78_129, ↓v78_130, ↓v78_131, ↓v78_134, ↓v78_136, ↓v78_137, ↓v78_140, ↓v78_143, ↓v78_145, ↓v78_147, ↓v78_150, ↓v78_153, ↓v78_156, ↓v78_157, ↓v78_158, ↓v78_161, ↓v78_162, ↓v78_164, ↓v78_167, ↓v78_170, ↓qI_c, ↓qL_c, ↓qR_c, ↓pA_o, ↓qC_i, ↓qC_r, ↓oA_s, ↓gI_0, ↓gI_1, ↓gI_2, ↓gI_3, ↓gI_4, ↓gI_5, ↓gI_6, ↓gI_7, ↓gI_8, ↓gI_9, ↓gI_10, ↓gR_0, ↓gR_1, ↓gR_2, ↓gR_3, ↓gR_4, ↓gR_5, ↓gR_6, ↓gR_7, ↓gR_8, ↓gR_9, ↓gR_10, ↓sL_0, ↓sL_1, ↓sL_2, ↓sL_3, ↓sL_4, ↓sL_5, ↓sL_6, ↓sL_7, ↓sL_8, ↓sL_9, ↓sL_10, ↓rrf_si, ↓rrf_sg, ↓shO_si, ↓shO_sg, ↓shO_sr, ↓shA_si, ↓shA_sg, ↓shA_sr, ↓pAs_0, ↓pAs_i, ↓pAs_r, stk_n, stk_i, stk_l, stk_r, List.nil_append, List.cons_append, true_and, and_true, true_or, or_true, Nat.zero_add, dp_s, Nat.reduceAdd, le8_0, le8_1, le8_2, le8_3, le8_4, le8_5, le8_6, le8_7, le8_8, Classical.not_not, aT40, aT41, aT42, aT44, aT54, aT58, aT59, rT54, rT58, rT59, reduceIte, Nat.reduceEqDiff, qn_42, qn_44, true_implies, not_true_eq_false, not_false_eq_true, false_implies, nI_1]
      exact ih (i + 1) M2 _ (by omega) h2 (fun M' h' o' => hk M' h' (o2.trans o' (fun _ x => x)))
    have same : cR ws own e0 i = false → rX pm made t a own lw e0 by_ ws (i + 1) = rX pm made t a own lw e0 by_ ws i := by
      intro hc
      have : (fun s => seB pm (nuA ws lw) s || rcB pm (cR ws own e0) (i + 1) s) = fun s => seB pm (nuA ws lw) s || rcB pm (cR ws own e0) i s := by
        funext s
        show (_ || (_ || (cR ws own e0 i && _))) = _
        rw [hc, Bool.false_and, Bool.or_false]
      unfold rX
      rw [this]
    have more : cR ws own e0 i = true → X (d + 2) 78 143 [some (.inr (some b)), some (.inl (nI own)), some (.inl (oI e0)), some (.inr (some a)), some (.inl (nI ws.length)), some (.inr (some (b + 7 + 2 + 2 * pm ws.length))), some (.inl (nI i)), some (.inr (some (b + 7 + 2 + 2 * pm i)))] [] M k := by
      intro hc
      have hpi := (hq.1.2.2.2.1 i (by omega)).2
      refine vc_X 30 _ _ _ _ _ _ _ ?_
      simp only [↓v78_0, ↓v78_3, ↓v78_4, ↓v78_5, ↓v78_8, ↓v78_11, ↓v78_12, ↓v78_13, ↓v78_14, ↓v78_17, ↓v78_18, ↓v78_21, ↓v78_22, ↓v78_25, ↓v78_28, ↓v78_31, ↓v78_34, ↓v78_35, ↓v78_38, ↓v78_41, ↓v78_44, ↓v78_45, ↓v78_46, ↓v78_49, ↓v78_52, ↓v78_54, ↓v78_55, ↓v78_58, ↓v78_61, ↓v78_62, ↓v78_65, ↓v78_66, ↓v78_69, ↓v78_71, ↓v78_73, ↓v78_76, ↓v78_77, ↓v78_79, ↓v78_80, ↓v78_83, ↓v78_85, ↓v78_86, ↓v78_89, ↓v78_90, ↓v78_93, ↓v78_96, ↓v78_99, ↓v78_100, ↓v78_102, ↓v78_104, ↓v78_106, ↓v78_109, ↓v78_110, ↓v78_113, ↓v78_115, ↓v78_118, ↓v78_120, ↓v78_122, ↓v78_125, ↓v78_127, ↓v78_129, ↓v78_130, ↓v78_131, ↓v78_134, ↓v78_136, ↓v78_137, ↓v78_140, ↓v78_143, ↓v78_145, ↓v78_147, ↓v78_150, ↓v78_153, ↓v78_156, ↓v78_157, ↓v78_158, ↓v78_161, ↓v78_162, ↓v78_164, ↓v78_167, ↓v78_170, ↓qI_c, ↓qL_c, ↓qR_c, ↓pA_o, ↓qC_i, ↓qC_r, ↓oA_s, ↓gI_0, ↓gI_1, ↓gI_2, ↓gI_3, ↓gI_4, ↓gI_5, ↓gI_6, ↓gI_7, ↓gI_8, ↓gI_9, ↓gI_10, ↓gR_0, ↓gR_1, ↓gR_2, ↓gR_3, ↓gR_4, ↓gR_5, ↓gR_6, ↓gR_7, ↓gR_8, ↓gR_9, ↓gR_10, ↓sL_0, ↓sL_1, ↓sL_2, ↓sL_3, ↓sL_4, ↓sL_5, ↓sL_6, ↓sL_7, ↓sL_8, ↓sL_9, ↓sL_10, ↓rrf_si, ↓rrf_sg, ↓shO_si, ↓shO_sg, ↓shO_sr, ↓shA_si, ↓shA_sg, ↓shA_sr, ↓pAs_0, ↓pAs_i, ↓pAs_r, stk_n, stk_i, stk_l, stk_r, List.nil_append, List.cons_append, true_and, and_true, true_or, or_true, Nat.zero_add, dp_s, Nat.reduceAdd, le8_0, le8_1, le8_2, le8_3, le8_4, le8_5, le8_6, le8_7, le8_8, Classical.not_not, aT40, aT41, aT42, aT44, aT54, aT58, aT59, rT54, rT58, rT59, reduceIte, Nat.reduceEqDiff, qn_42, qn_44, true_implies, not_true_eq_false, not_false_eq_true, false_implies, ↓shO_of wx.1.1]
      refine k58 wx (hq.seat (t := pm i) hpi) (fun M2 wx2 o2 => ⟨rfl, ?_⟩)
      have o2' : Of (fun y => y = b + 7 + 2 + 2 * pm ws.length ∨ y = b + 7 + 2 + 2 * pm ws.length + 1) M M2 := o2.mono (fun x hx => Or.inl hx)
      have hpn := (hq.1.2.2.2.1 ws.length hn).2
      have oA : Of (PQ (b + 7)) M M2 := o2.mono (fun x hx => by rw [hx]; unfold PQ; omega)
      have eX : rX pm made t a own lw e0 by_ ws (i + 1) = ((rX pm made t a own lw e0 by_ ws i).1, (rX pm made t a own lw e0 by_ ws i).2.1, (rX pm made t a own lw e0 by_ ws i).2.2.1, (rX pm made t a own lw e0 by_ ws i).2.2.2.1, (rX pm made t a own lw e0 by_ ws i).2.2.2.2.1, fun s => (rX pm made t a own lw e0 by_ ws i).2.2.2.2.2 s || decide (s = pm i)) := by
        have : (fun s => seB pm (nuA ws lw) s || rcB pm (cR ws own e0) (i + 1) s) = fun s => (seB pm (nuA ws lw) s || rcB pm (cR ws own e0) i s) || decide (s = pm i) := by
          funext s
          show (_ || (_ || (cR ws own e0 i && _))) = _
          rw [hc, Bool.true_and, Bool.or_assoc]
        unfold rX
        rw [this]
      rw [← eX] at wx2
      have q2 := hq.upd (i := ws.length) (by rw [List.length_append]; simp) (x' := rX pm made t a own lw e0 by_ ws (i + 1)) rfl wx2 o2'
      rw [List.set_append_right _ _ (Nat.le_refl _), Nat.sub_self] at q2
      have q2 : QuC M2 (b + 7) pm (made + 1) (ws ++ [rX pm made t a own lw e0 by_ ws (i + 1)]) := q2
      refine next M2 _ (h.upQ q2 oA (fun k x a' hk' ha => ?_)) oA
      by_cases hlt : k < ws.length
      · rw [List.getElem?_append_left hlt] at hk'
        exact h.2.2.1.2 k x a' (by rw [List.getElem?_append_left hlt]; exact hk') ha
      · have hl2 := (List.getElem?_eq_some_iff.mp hk').1
        rw [List.length_append] at hl2
        have e : k = ws.length := by simp at hl2; omega
        subst e
        rw [List.getElem?_append_right (Nat.le_refl _), Nat.sub_self] at hk'
        cases hk'
        exact h.2.2.1.2 ws.length (rX pm made t a own lw e0 by_ ws i) a' (by rw [List.getElem?_append_right (Nat.le_refl _), Nat.sub_self]; rfl) ha
    refine vc_X 40 _ _ _ _ _ _ _ ?_
    simp only [↓v78_0, ↓v78_3, ↓v78_4, ↓v78_5, ↓v78_8, ↓v78_11, ↓v78_12, ↓v78_13, ↓v78_14, ↓v78_17, ↓v78_18, ↓v78_21, ↓v78_22, ↓v78_25, ↓v78_28, ↓v78_31, ↓v78_34, ↓v78_35, ↓v78_38, ↓v78_41, ↓v78_44, ↓v78_45, ↓v78_46, ↓v78_49, ↓v78_52, ↓v78_54, ↓v78_55, ↓v78_58, ↓v78_61, ↓v78_62, ↓v78_65, ↓v78_66, ↓v78_69, ↓v78_71, ↓v78_73, ↓v78_76, ↓v78_77, ↓v78_79, ↓v78_80, ↓v78_83, ↓v78_85, ↓v78_86, ↓v78_89, ↓v78_90, ↓v78_93, ↓v78_96, ↓v78_99, ↓v78_100, ↓v78_102, ↓v78_104, ↓v78_106, ↓v78_109, ↓v78_110, ↓v78_113, ↓v78_115, ↓v78_118, ↓v78_120, ↓v78_122, ↓v78_125, ↓v78_127, ↓v78_129, ↓v78_130, ↓v78_131, ↓v78_134, ↓v78_136, ↓v78_137, ↓v78_140, ↓v78_143, ↓v78_145, ↓v78_147, ↓v78_150, ↓v78_153, ↓v78_156, ↓v78_157, ↓v78_158, ↓v78_161, ↓v78_162, ↓v78_164, ↓v78_167, ↓v78_170, ↓qI_c, ↓qL_c, ↓qR_c, ↓pA_o, ↓qC_i, ↓qC_r, ↓oA_s, ↓gI_0, ↓gI_1, ↓gI_2, ↓gI_3, ↓gI_4, ↓gI_5, ↓gI_6, ↓gI_7, ↓gI_8, ↓gI_9, ↓gI_10, ↓gR_0, ↓gR_1, ↓gR_2, ↓gR_3, ↓gR_4, ↓gR_5, ↓gR_6, ↓gR_7, ↓gR_8, ↓gR_9, ↓gR_10, ↓sL_0, ↓sL_1, ↓sL_2, ↓sL_3, ↓sL_4, ↓sL_5, ↓sL_6, ↓sL_7, ↓sL_8, ↓sL_9, ↓sL_10, ↓rrf_si, ↓rrf_sg, ↓shO_si, ↓shO_sg, ↓shO_sr, ↓shA_si, ↓shA_sg, ↓shA_sr, ↓pAs_0, ↓pAs_i, ↓pAs_r, stk_n, stk_i, stk_l, stk_r, List.nil_append, List.cons_append, true_and, and_true, true_or, or_true, Nat.zero_add, dp_s, Nat.reduceAdd, le8_0, le8_1, le8_2, le8_3, le8_4, le8_5, le8_6, le8_7, le8_8, Classical.not_not, aT40, aT41, aT42, aT44, aT54, aT58, aT59, rT54, rT58, rT59, reduceIte, Nat.reduceEqDiff, qn_42, qn_44, true_implies, not_true_eq_false, not_false_eq_true, false_implies, le_T, nT (show i < 2147483648 by omega), nT (show ws.length < 2147483648 by omega), ↓shO_of h.1.1.1, ↓rrf_of h.1.1.2.2.1, ↓shO_of hq.1.1]
    refine ⟨fun c => by omega, fun _ => ?_⟩
    refine k74 hq (fun j x ej hj => ⟨_, rfl, ?_⟩) (fun c => absurd (inB_n (by rw [List.length_append]; omega) (by rw [List.length_append]; simp; omega)) c)
    have hjl := (List.getElem?_eq_some_iff.mp hj).1
    rw [List.length_append] at hjl
    have hjl : j < ws.length + 1 := hjl
    rw [nI_eq (by omega) (by omega)] at ej
    subst ej
    rw [hxi'] at hj
    cases hj
    obtain ⟨-, wi⟩ := hq.2.2.2.2.2 i _ hxi'
    have wb := wi.2.2.2.2.2.2.2
    have cd : cR ws own e0 i = (decide (ws.length - own ≤ i) || (decide (ws[i].2.2.1 < 128) && (e0 == some (ws[i].2.2.1 / 16)))) := by unfold cR; rw [hxi]
    refine vc_X 40 _ _ _ _ _ _ _ ?_
    simp only [↓v78_0, ↓v78_3, ↓v78_4, ↓v78_5, ↓v78_8, ↓v78_11, ↓v78_12, ↓v78_13, ↓v78_14, ↓v78_17, ↓v78_18, ↓v78_21, ↓v78_22, ↓v78_25, ↓v78_28, ↓v78_31, ↓v78_34, ↓v78_35, ↓v78_38, ↓v78_41, ↓v78_44, ↓v78_45, ↓v78_46, ↓v78_49, ↓v78_52, ↓v78_54, ↓v78_55, ↓v78_58, ↓v78_61, ↓v78_62, ↓v78_65, ↓v78_66, ↓v78_69, ↓v78_71, ↓v78_73, ↓v78_76, ↓v78_77, ↓v78_79, ↓v78_80, ↓v78_83, ↓v78_85, ↓v78_86, ↓v78_89, ↓v78_90, ↓v78_93, ↓v78_96, ↓v78_99, ↓v78_100, ↓v78_102, ↓v78_104, ↓v78_106, ↓v78_109, ↓v78_110, ↓v78_113, ↓v78_115, ↓v78_118, ↓v78_120, ↓v78_122, ↓v78_125, ↓v78_127, ↓v78_129, ↓v78_130, ↓v78_131, ↓v78_134, ↓v78_136, ↓v78_137, ↓v78_140, ↓v78_143, ↓v78_145, ↓v78_147, ↓v78_150, ↓v78_153, ↓v78_156, ↓v78_157, ↓v78_158, ↓v78_161, ↓v78_162, ↓v78_164, ↓v78_167, ↓v78_170, ↓qI_c, ↓qL_c, ↓qR_c, ↓pA_o, ↓qC_i, ↓qC_r, ↓oA_s, ↓gI_0, ↓gI_1, ↓gI_2, ↓gI_3, ↓gI_4, ↓gI_5, ↓gI_6, ↓gI_7, ↓gI_8, ↓gI_9, ↓gI_10, ↓gR_0, ↓gR_1, ↓gR_2, ↓gR_3, ↓gR_4, ↓gR_5, ↓gR_6, ↓gR_7, ↓gR_8, ↓gR_9, ↓gR_10, ↓sL_0, ↓sL_1, ↓sL_2, ↓sL_3, ↓sL_4, ↓sL_5, ↓sL_6, ↓sL_7, ↓sL_8, ↓sL_9, ↓sL_10, ↓rrf_si, ↓rrf_sg, ↓shO_si, ↓shO_sg, ↓shO_sr, ↓shA_si, ↓shA_sg, ↓shA_sr, ↓pAs_0, ↓pAs_i, ↓pAs_r, stk_n, stk_i, stk_l, stk_r, List.nil_append, List.cons_append, true_and, and_true, true_or, or_true, Nat.zero_add, dp_s, Nat.reduceAdd, le8_0, le8_1, le8_2, le8_3, le8_4, le8_5, le8_6, le8_7, le8_8, Classical.not_not, aT40, aT41, aT42, aT44, aT54, aT58, aT59, rT54, rT58, rT59, reduceIte, Nat.reduceEqDiff, qn_42, qn_44, true_implies, not_true_eq_false, not_false_eq_true, false_implies, sn, pk_sub hown, le_T, nT (show i < 2147483648 by omega), nT (show ws.length - own < 2147483648 by omega), ↓shO_of wi.1.1]
    refine ⟨fun c => ?_, fun c => ?_⟩
    · exact more (by rw [cd, decide_eq_true (by omega), Bool.true_or])
    · refine k82 wi ⟨_, rfl, ?_⟩
      have c0 : decide (ws.length - own ≤ i) = false := decide_eq_false (by omega)
      by_cases h8 : ws[i].2.2.1 < 128 ∧ nI (ws[i].2.2.1 / 16) = oI e0
      · rw [if_pos h8]
        refine vc_X 30 _ _ _ _ _ _ _ ?_
        simp only [↓v78_0, ↓v78_3, ↓v78_4, ↓v78_5, ↓v78_8, ↓v78_11, ↓v78_12, ↓v78_13, ↓v78_14, ↓v78_17, ↓v78_18, ↓v78_21, ↓v78_22, ↓v78_25, ↓v78_28, ↓v78_31, ↓v78_34, ↓v78_35, ↓v78_38, ↓v78_41, ↓v78_44, ↓v78_45, ↓v78_46, ↓v78_49, ↓v78_52, ↓v78_54, ↓v78_55, ↓v78_58, ↓v78_61, ↓v78_62, ↓v78_65, ↓v78_66, ↓v78_69, ↓v78_71, ↓v78_73, ↓v78_76, ↓v78_77, ↓v78_79, ↓v78_80, ↓v78_83, ↓v78_85, ↓v78_86, ↓v78_89, ↓v78_90, ↓v78_93, ↓v78_96, ↓v78_99, ↓v78_100, ↓v78_102, ↓v78_104, ↓v78_106, ↓v78_109, ↓v78_110, ↓v78_113, ↓v78_115, ↓v78_118, ↓v78_120, ↓v78_122, ↓v78_125, ↓v78_127, ↓v78_129, ↓v78_130, ↓v78_131, ↓v78_134, ↓v78_136, ↓v78_137, ↓v78_140, ↓v78_143, ↓v78_145, ↓v78_147, ↓v78_150, ↓v78_153, ↓v78_156, ↓v78_157, ↓v78_158, ↓v78_161, ↓v78_162, ↓v78_164, ↓v78_167, ↓v78_170, ↓qI_c, ↓qL_c, ↓qR_c, ↓pA_o, ↓qC_i, ↓qC_r, ↓oA_s, ↓gI_0, ↓gI_1, ↓gI_2, ↓gI_3, ↓gI_4, ↓gI_5, ↓gI_6, ↓gI_7, ↓gI_8, ↓gI_9, ↓gI_10, ↓gR_0, ↓gR_1, ↓gR_2, ↓gR_3, ↓gR_4, ↓gR_5, ↓gR_6, ↓gR_7, ↓gR_8, ↓gR_9, ↓gR_10, ↓sL_0, ↓sL_1, ↓sL_2, ↓sL_3, ↓sL_4, ↓sL_5, ↓sL_6, ↓sL_7, ↓sL_8, ↓sL_9, ↓sL_10, ↓rrf_si, ↓rrf_sg, ↓shO_si, ↓shO_sg, ↓shO_sr, ↓shA_si, ↓shA_sg, ↓shA_sr, ↓pAs_0, ↓pAs_i, ↓pAs_r, stk_n, stk_i, stk_l, stk_r, List.nil_append, List.cons_append, true_and, and_true, true_or, or_true, Nat.zero_add, dp_s, Nat.reduceAdd, le8_0, le8_1, le8_2, le8_3, le8_4, le8_5, le8_6, le8_7, le8_8, Classical.not_not, aT40, aT41, aT42, aT44, aT54, aT58, aT59, rT54, rT58, rT59, reduceIte, Nat.reduceEqDiff, qn_42, qn_44, true_implies, not_true_eq_false, not_false_eq_true, false_implies, i10]
        refine more ?_
        rw [cd, c0, Bool.false_or, decide_eq_true h8.1, Bool.true_and, beq_iff_eq]
        cases he : e0 with
        | none =>
          rw [he] at h8
          have h9 : nI (ws[i].2.2.1 / 16) = -1 := h8.2
          rw [nI_nm (by omega) (by decide)] at h9
          exact h9.elim
        | some e =>
          rw [he] at h8
          have h9 : nI (ws[i].2.2.1 / 16) = nI e := h8.2
          have := he0 e he
          rw [nI_eq (by omega) (by omega)] at h9
          rw [h9]
      · rw [if_neg h8]
        refine vc_X 30 _ _ _ _ _ _ _ ?_
        simp only [↓v78_0, ↓v78_3, ↓v78_4, ↓v78_5, ↓v78_8, ↓v78_11, ↓v78_12, ↓v78_13, ↓v78_14, ↓v78_17, ↓v78_18, ↓v78_21, ↓v78_22, ↓v78_25, ↓v78_28, ↓v78_31, ↓v78_34, ↓v78_35, ↓v78_38, ↓v78_41, ↓v78_44, ↓v78_45, ↓v78_46, ↓v78_49, ↓v78_52, ↓v78_54, ↓v78_55, ↓v78_58, ↓v78_61, ↓v78_62, ↓v78_65, ↓v78_66, ↓v78_69, ↓v78_71, ↓v78_73, ↓v78_76, ↓v78_77, ↓v78_79, ↓v78_80, ↓v78_83, ↓v78_85, ↓v78_86, ↓v78_89, ↓v78_90, ↓v78_93, ↓v78_96, ↓v78_99, ↓v78_100, ↓v78_102, ↓v78_104, ↓v78_106, ↓v78_109, ↓v78_110, ↓v78_113, ↓v78_115, ↓v78_118, ↓v78_120, ↓v78_122, ↓v78_125, ↓v78_127, ↓v78_129, ↓v78_130, ↓v78_131, ↓v78_134, ↓v78_136, ↓v78_137, ↓v78_140, ↓v78_143, ↓v78_145, ↓v78_147, ↓v78_150, ↓v78_153, ↓v78_156, ↓v78_157, ↓v78_158, ↓v78_161, ↓v78_162, ↓v78_164, ↓v78_167, ↓v78_170, ↓qI_c, ↓qL_c, ↓qR_c, ↓pA_o, ↓qC_i, ↓qC_r, ↓oA_s, ↓gI_0, ↓gI_1, ↓gI_2, ↓gI_3, ↓gI_4, ↓gI_5, ↓gI_6, ↓gI_7, ↓gI_8, ↓gI_9, ↓gI_10, ↓gR_0, ↓gR_1, ↓gR_2, ↓gR_3, ↓gR_4, ↓gR_5, ↓gR_6, ↓gR_7, ↓gR_8, ↓gR_9, ↓gR_10, ↓sL_0, ↓sL_1, ↓sL_2, ↓sL_3, ↓sL_4, ↓sL_5, ↓sL_6, ↓sL_7, ↓sL_8, ↓sL_9, ↓sL_10, ↓rrf_si, ↓rrf_sg, ↓shO_si, ↓shO_sg, ↓shO_sr, ↓shA_si, ↓shA_sg, ↓shA_sr, ↓pAs_0, ↓pAs_i, ↓pAs_r, stk_n, stk_i, stk_l, stk_r, List.nil_append, List.cons_append, true_and, and_true, true_or, or_true, Nat.zero_add, dp_s, Nat.reduceAdd, le8_0, le8_1, le8_2, le8_3, le8_4, le8_5, le8_6, le8_7, le8_8, Classical.not_not, aT40, aT41, aT42, aT44, aT54, aT58, aT59, rT54, rT58, rT59, reduceIte, Nat.reduceEqDiff, qn_42, qn_44, true_implies, not_true_eq_false, not_false_eq_true, false_implies, i00]
        refine next M _ ?_ Of.rf_
        rw [same ?_]
        · exact h
        · rw [cd, c0, Bool.false_or]
          by_cases h9 : ws[i].2.2.1 < 128
          · rw [decide_eq_true h9, Bool.true_and]
            refine beq_eq_false_iff_ne.mpr (fun c2 => h8 ⟨h9, ?_⟩)
            rw [c2]
            rfl
          · rw [decide_eq_false h9, Bool.false_and]
end
theorem fst_last {p : Nat → Bool} : ∀ (m i : Nat), p (i + m) = false → fst_ p i (m + 1) = fst_ p i m
  | 0, i, h => by
    show (if p i then some i else none) = none
    rw [show p i = false from h, if_neg (by decide)]
  | m + 1, i, h => by
    show (if p i then some i else fst_ p (i + 1) (m + 1)) = if p i then some i else fst_ p (i + 1) m
    rw [fst_last m (i + 1) (by rw [show i + 1 + m = i + (m + 1) by omega]; exact h)]
theorem fst_cong {p q : Nat → Bool} : ∀ (m i : Nat), (∀ j, i ≤ j → j < i + m → p j = q j) → fst_ p i m = fst_ q i m
  | 0, i, _ => rfl
  | m + 1, i, h => by
    show (if p i then some i else fst_ p (i + 1) m) = if q i then some i else fst_ q (i + 1) m
    rw [h i (Nat.le_refl _) (by omega), fst_cong m (i + 1) (fun j h1 h2 => h j (by omega) (by omega))]
theorem nuA_app {ws : List WT} {x : WT} {o : Option Nat} (h : o ≠ some x.2.1) : nuA (ws ++ [x]) o = nuA ws o := by
  unfold nuA
  rw [List.length_append]
  show fst_ _ 0 (ws.length + 1) = _
  rw [fst_last]
  · refine fst_cong _ _ (fun j _ hj => ?_)
    unfold emP
    rw [List.getElem?_append_left (by omega)]
  · unfold emP
    rw [Nat.zero_add, List.getElem?_append_right (Nat.le_refl _), Nat.sub_self]
    exact decide_eq_false h
section
variable {D : DT} {Q : QT} {C : List Nat × Nat} {L : (Nat → Nat) × Option Nat} {I : IT} {T : List Nat × List Nat} {E : (Nat → Option Nat) × (Nat → Bool)} {F : FT}
/-- records by address, one more -/
def gU (G : Nat → RecT) (a : Nat) (q : RecT) : Nat → RecT := fun y => if y = a then q else G y
/-- the record of how all is now -/
def rcN (L : (Nat → Nat) × Option Nat) (I : IT) (F : FT) : RecT := ((F.1 F.2.1).1 + 1, F.2.2.2.2.1, F.2.2.2.1, L.1, I.2.2.map Prod.fst)
theorem k78 {d : Nat} {M : Mm} {k : mQ} {b own : Nat} {e0 : Option Nat} (h : CP M b D Q C L I T E F) (hz : b + 303 ≤ M.sz) (hown : own ≤ Q.2.2.length) (hn : Q.2.2.length < 120) (hm : Q.2.1 + 1 < 1000000) (he0 : ∀ e, e0 = some e → e < 8) (hr : (F.1 F.2.1).1 + 1 < 100000) (hlw : ∀ n, F.2.2.1 = some n → n < Q.2.1)
    (hk : ∀ (M' : Mm) (by_ : Nat → Int32), CP M' b D (Q.1, Q.2.1 + 1, Q.2.2 ++ [rX Q.1 Q.2.1 (128 + (rcN L I F).1 % 2) M.sz own F.2.2.1 e0 by_ Q.2.2 Q.2.2.length]) C L I T E (gU F.1 M.sz (rcN L I F), M.sz, some Q.2.1, F.2.2.2) → M'.sz = M.sz + 3 → M'.sl = M.sl + (13 + I.2.2.length) → Ag (fun y => y < M.sz ∧ ¬ (y = b ∨ PQ (b + 7) y)) M M' → k none M') : XC (d + 3) 78 [.inr (some b), .inl (nI own), .inl (oI e0)] M k := by
  generalize hM1 : M.nw (8, 0) 5 = M1
  have g1 : Ag (fun y => y < M.sz) M M1 := by rw [← hM1]; exact nw_ag _ _ _
  have z1 : M1.sz = M.sz + 1 := by rw [← hM1]; rfl
  have l1 : M1.sl = M.sl + 5 := by rw [← hM1]; rfl
  have s1 : M1.sh M.sz = some (8, 0) := by rw [← hM1, nw_sh, if_pos rfl]
  have h1 : CP M1 b D Q C L I T E F := h.ag g1 (fun x hx => by omega) (by omega)
  generalize hM2 : M1.cp (b + 252) (41, 8) 8 = M2
  have g2 : Ag (fun y => y < M1.sz) M1 M2 := by rw [← hM2]; exact cp_ag _ _ _ _
  have z2 : M2.sz = M.sz + 2 := by rw [← hM2]; show M1.sz + 1 = _; omega
  have l2 : M2.sl = M.sl + 13 := by rw [← hM2]; show M1.sl + 8 = _; omega
  have s2 : M2.sh (M.sz + 1) = some (41, 8) := by rw [← hM2, cp_sh, if_pos z1.symm]
  have i2 : ∀ e, M2.it (M.sz + 1) e = M1.it (b + 252) e := fun e => by rw [← hM2, cp_it, if_pos z1.symm]
  have h2 : CP M2 b D Q C L I T E F := h1.ag g2 (fun x hx => by omega) (by omega)
  have hF1 := h1.2.2.2.2.2.2.2.2
  have hL1 := h1.2.2.2.2.1
  have hI2 := h2.2.2.2.2.2.1
  refine xc ?_
  show X (d + 2) 78 0 [some (.inr (some b)), some (.inl (nI own)), some (.inl (oI e0)), none, none, none, none, none] [] M k
  refine vc_X 60 _ _ _ _ _ _ _ ?_
  simp only [↓v78_0, ↓v78_3, ↓v78_4, ↓v78_5, ↓v78_8, ↓v78_11, ↓v78_12, ↓v78_13, ↓v78_14, ↓v78_17, ↓v78_18, ↓v78_21, ↓v78_22, ↓v78_25, ↓v78_28, ↓v78_31, ↓v78_34, ↓v78_35, ↓v78_38, ↓v78_41, ↓v78_44, ↓v78_45, ↓v78_46, ↓v78_49, ↓v78_52, ↓v78_54, ↓v78_55, ↓v78_58, ↓v78_61, ↓v78_62, ↓v78_65, ↓v78_66, ↓v78_69, ↓v78_71, ↓v78_73, ↓v78_76, ↓v78_77, ↓v78_79, ↓v78_80, ↓v78_83, ↓v78_85, ↓v78_86, ↓v78_89, ↓v78_90, ↓v78_93, ↓v78_96, ↓v78_99, ↓v78_100, ↓v78_102, ↓v78_104, ↓v78_106, ↓v78_109, ↓v78_110, ↓v78_113, ↓v78_115, ↓v78_118, ↓v78_120, ↓v78_122, ↓v78_125, ↓v78_127, ↓v78_129, ↓v78_130, ↓v78_131, ↓v78_134, ↓v78_136, ↓v78_137, ↓v78_140, ↓v78_143, ↓v78_145, ↓v78_147, ↓v78_150, ↓v78_153, ↓v78_156, ↓v78_157, ↓v78_158, ↓v78_161, ↓v78_162, ↓v78_164, ↓v78_167, ↓v78_170, ↓qI_c, ↓qL_c, ↓qR_c, ↓pA_o, ↓qC_i, ↓qC_r, ↓oA_s, ↓gI_0, ↓gI_1, ↓gI_2, ↓gI_3, ↓gI_4, ↓gI_5, ↓gI_6, ↓gI_7, ↓gI_8, ↓gI_9, ↓gI_10, ↓gR_0, ↓gR_1, ↓gR_2, ↓gR_3, ↓gR_4, ↓gR_5, ↓gR_6, ↓gR_7, ↓gR_8, ↓gR_9, ↓gR_10, ↓sL_0, ↓sL_1, ↓sL_2, ↓sL_3, ↓sL_4, ↓sL_5, ↓sL_6, ↓sL_7, ↓sL_8, ↓sL_9, ↓sL_10, ↓rrf_si, ↓rrf_sg, ↓shO_si, ↓shO_sg, ↓shO_sr, ↓shA_si, ↓shA_sg, ↓shA_sr, ↓pAs_0, ↓pAs_i, ↓pAs_r, stk_n, stk_i, stk_l, stk_r, List.nil_append, List.cons_append, true_and, and_true, true_or, or_true, Nat.zero_add, dp_s, Nat.reduceAdd, le8_0, le8_1, le8_2, le8_3, le8_4, le8_5, le8_6, le8_7, le8_8, Classical.not_not, aT40, aT41, aT42, aT44, aT54, aT58, aT59, rT54, rT58, rT59, reduceIte, Nat.reduceEqDiff, qn_42, qn_44, true_implies, not_true_eq_false, not_false_eq_true, false_implies, hM1, z1, ↓shO_of h1.1.1.1, ↓rrf_of hF1.1, ↓shO_of hF1.2.1.1.1.1, hF1.2.1.1.2.1, hF1.2.2.2.1, hF1.2.2.2.2.1, ↓rrf_of h1.1.1.2.2.2.2.1, ↓shO_of hL1.1.1, ↓rrf_of hL1.1.2.1, ↓shA_of hL1.1.2.2, hM2, ↓shA_of s2, ↓shO_of h2.1.1.1, ↓rrf_of h2.1.1.2.2.2.2.2.2, ↓shO_of hI2.1.1, nI_1]
  refine k79 hI2 (by omega) (fun M3 z3 l3 g3 s3 v3 => ⟨_, rfl, ?_⟩)
  have h3 : CP M3 b D Q C L I T E F := h2.ag g3 (fun x hx => by omega) (by omega)
  have c13 : M3.sh M.sz = some (8, 0) := by rw [g3.sh (show M.sz < M2.sz by omega), g2.sh (show M.sz < M1.sz by omega)]; exact s1
  have c23 : M3.sh (M.sz + 1) = some (41, 8) := by rw [g3.sh (show M.sz + 1 < M2.sz by omega)]; exact s2
  rw [z2] at z3 s3 v3
  refine vc_X 30 _ _ _ _ _ _ _ ?_
  simp only [↓v78_0, ↓v78_3, ↓v78_4, ↓v78_5, ↓v78_8, ↓v78_11, ↓v78_12, ↓v78_13, ↓v78_14, ↓v78_17, ↓v78_18, ↓v78_21, ↓v78_22, ↓v78_25, ↓v78_28, ↓v78_31, ↓v78_34, ↓v78_35, ↓v78_38, ↓v78_41, ↓v78_44, ↓v78_45, ↓v78_46, ↓v78_49, ↓v78_52, ↓v78_54, ↓v78_55, ↓v78_58, ↓v78_61, ↓v78_62, ↓v78_65, ↓v78_66, ↓v78_69, ↓v78_71, ↓v78_73, ↓v78_76, ↓v78_77, ↓v78_79, ↓v78_80, ↓v78_83, ↓v78_85, ↓v78_86, ↓v78_89, ↓v78_90, ↓v78_93, ↓v78_96, ↓v78_99, ↓v78_100, ↓v78_102, ↓v78_104, ↓v78_106, ↓v78_109, ↓v78_110, ↓v78_113, ↓v78_115, ↓v78_118, ↓v78_120, ↓v78_122, ↓v78_125, ↓v78_127, ↓v78_129, ↓v78_130, ↓v78_131, ↓v78_134, ↓v78_136, ↓v78_137, ↓v78_140, ↓v78_143, ↓v78_145, ↓v78_147, ↓v78_150, ↓v78_153, ↓v78_156, ↓v78_157, ↓v78_158, ↓v78_161, ↓v78_162, ↓v78_164, ↓v78_167, ↓v78_170, ↓qI_c, ↓qL_c, ↓qR_c, ↓pA_o, ↓qC_i, ↓qC_r, ↓oA_s, ↓gI_0, ↓gI_1, ↓gI_2, ↓gI_3, ↓gI_4, ↓gI_5, ↓gI_6, ↓gI_7, ↓gI_8, ↓gI_9, ↓gI_10, ↓gR_0, ↓gR_1, ↓gR_2, ↓gR_3, ↓gR_4, ↓gR_5, ↓gR_6, ↓gR_7, ↓gR_8, ↓gR_9, ↓gR_10, ↓sL_0, ↓sL_1, ↓sL_2, ↓sL_3, ↓sL_4, ↓sL_5, ↓sL_6, ↓sL_7, ↓sL_8, ↓sL_9, ↓sL_10, ↓rrf_si, ↓rrf_sg, ↓shO_si, ↓shO_sg, ↓shO_sr, ↓shA_si, ↓shA_sg, ↓shA_sr, ↓pAs_0, ↓pAs_i, ↓pAs_r, stk_n, stk_i, stk_l, stk_r, List.nil_append, List.cons_append, true_and, and_true, true_or, or_true, Nat.zero_add, dp_s, Nat.reduceAdd, le8_0, le8_1, le8_2, le8_3, le8_4, le8_5, le8_6, le8_7, le8_8, Classical.not_not, aT40, aT41, aT42, aT44, aT54, aT58, aT59, rT54, rT58, rT59, reduceIte, Nat.reduceEqDiff, qn_42, qn_44, true_implies, not_true_eq_false, not_false_eq_true, false_implies, z2, ↓shO_of c13]
  refine k4 c13 (fun M4 n0 n1 n2 n3 n4 o4 => ⟨rfl, ?_⟩)
  generalize hq : rcN L I F = q
  have hL := h.2.2.2.2.1
  have hF := h.2.2.2.2.2.2.2.2
  have hI := h.2.2.2.2.2.1
  have i4 : ∀ x, x ≠ M.sz → ∀ j, M4.it x j = M3.it x j := fun x hx j => (o4.2.2.2 x hx j).1
  have rec4 : ReC M4 M.sz q := by
    rw [← hq]
    refine ⟨⟨by rw [o4.1]; exact c13, n3, n4, by rw [o4.1]; exact c23, ?_⟩, n0, n1, n2, fun e he => ⟨?_, (hL.2.1 e he).2⟩, fun i v hv => ?_, ?_, hr, ?_, ?_⟩
    · show M4.sh (M.sz + 2) = some (41, (I.2.2.map Prod.fst).length)
      rw [o4.1, List.length_map]
      exact s3
    · show M4.it (M.sz + 1) e = nI (L.1 e)
      rw [i4 _ (by omega), g3.it (show M.sz + 1 < M2.sz by omega), i2]
      exact (hL1.2.1 e he).1
    · have hv : (I.2.2.map Prod.fst)[i]? = some v := hv
      rw [List.getElem?_map] at hv
      cases hz2 : I.2.2[i]? with
      | none => rw [hz2] at hv; cases hv
      | some z =>
        rw [hz2] at hv
        cases hv
        refine ⟨?_, (hI.2.2.2.2 i z hz2).2⟩
        rw [i4 _ (by omega)]
        exact v3 i z hz2
    · show (I.2.2.map Prod.fst).length ≤ 3
      rw [List.length_map]
      exact hI.2.2.2.1
    · show F.2.2.2.2.1 < 100000
      have := hF.2.2.2.2.2.2.2
      omega
    · exact hF.2.2.2.2.2.2.1
  have z4 : M4.sz = M.sz + 3 := by rw [o4.2.1]; exact z3
  have l4 : M4.sl = M.sl + (13 + I.2.2.length) := by rw [o4.2.2.1, l3, l2]; omega
  have g4 : Ag (fun y => y < M.sz) M M4 := ((g1.trans g2 (fun x hx => by have hx : x < M.sz := hx; omega)).trans g3 (fun x hx => by have hx : x < M.sz := hx; omega)).trans (o4.ag (R := fun y => y ≠ M.sz) (fun x hx hP => hx hP)) (fun x hx => by have hx : x < M.sz := hx; omega)
  have h4 : CP M4 b D Q C L I T E F := h.ag g4 (fun x hx => by omega) (by omega)
  have hG4 : CP M4 b D Q C L I T E (gU F.1 M.sz q, F.2) := by
    have e : CP M4 b D Q C L I T E (gU F.1 M.sz q, F.2) := by
      obtain ⟨a1, a2, a3, a4, a5, a6, a7, a8, a9⟩ := h4
      have R : ∀ y, RcC M b F.1 y → RcC M4 b F.1 y → RcC M4 b (gU F.1 M.sz q) y := fun y hy hy4 => ⟨by unfold gU; rw [if_neg (by have := hy.2.2; omega)]; exact hy4.1, hy4.2⟩
      have hD := h.2.1
      exact ⟨a1, ⟨a2.1, a2.2.1, a2.2.2.1, R _ hD.2.2.2.1 a2.2.2.2.1, fun y hy => R _ (hD.2.2.2.2 y hy) (a2.2.2.2.2 y hy)⟩, ⟨a3.1, fun k x y hk hy => R _ (h.2.2.1.2 k x y hk hy) (a3.2 k x y hk hy)⟩, a4, a5, a6, a7, a8, ⟨a9.1, R _ hF.2.1 a9.2.1, a9.2.2⟩⟩
    exact e
  have hQ4 : QuC M4 (b + 7) Q.1 Q.2.1 Q.2.2 := h4.2.2.1.1
  refine vc_X 40 _ _ _ _ _ _ _ ?_
  simp only [↓v78_0, ↓v78_3, ↓v78_4, ↓v78_5, ↓v78_8, ↓v78_11, ↓v78_12, ↓v78_13, ↓v78_14, ↓v78_17, ↓v78_18, ↓v78_21, ↓v78_22, ↓v78_25, ↓v78_28, ↓v78_31, ↓v78_34, ↓v78_35, ↓v78_38, ↓v78_41, ↓v78_44, ↓v78_45, ↓v78_46, ↓v78_49, ↓v78_52, ↓v78_54, ↓v78_55, ↓v78_58, ↓v78_61, ↓v78_62, ↓v78_65, ↓v78_66, ↓v78_69, ↓v78_71, ↓v78_73, ↓v78_76, ↓v78_77, ↓v78_79, ↓v78_80, ↓v78_83, ↓v78_85, ↓v78_86, ↓v78_89, ↓v78_90, ↓v78_93, ↓v78_96, ↓v78_99, ↓v78_100, ↓v78_102, ↓v78_104, ↓v78_106, ↓v78_109, ↓v78_110, ↓v78_113, ↓v78_115, ↓v78_118, ↓v78_120, ↓v78_122, ↓v78_125, ↓v78_127, ↓v78_129, ↓v78_130, ↓v78_131, ↓v78_134, ↓v78_136, ↓v78_137, ↓v78_140, ↓v78_143, ↓v78_145, ↓v78_147, ↓v78_150, ↓v78_153, ↓v78_156, ↓v78_157, ↓v78_158, ↓v78_161, ↓v78_162, ↓v78_164, ↓v78_167, ↓v78_170, ↓qI_c, ↓qL_c, ↓qR_c, ↓pA_o, ↓qC_i, ↓qC_r, ↓oA_s, ↓gI_0, ↓gI_1, ↓gI_2, ↓gI_3, ↓gI_4, ↓gI_5, ↓gI_6, ↓gI_7, ↓gI_8, ↓gI_9, ↓gI_10, ↓gR_0, ↓gR_1, ↓gR_2, ↓gR_3, ↓gR_4, ↓gR_5, ↓gR_6, ↓gR_7, ↓gR_8, ↓gR_9, ↓gR_10, ↓sL_0, ↓sL_1, ↓sL_2, ↓sL_3, ↓sL_4, ↓sL_5, ↓sL_6, ↓sL_7, ↓sL_8, ↓sL_9, ↓sL_10, ↓rrf_si, ↓rrf_sg, ↓shO_si, ↓shO_sg, ↓shO_sr, ↓shA_si, ↓shA_sg, ↓shA_sr, ↓pAs_0, ↓pAs_i, ↓pAs_r, stk_n, stk_i, stk_l, stk_r, List.nil_append, List.cons_append, true_and, and_true, true_or, or_true, Nat.zero_add, dp_s, Nat.reduceAdd, le8_0, le8_1, le8_2, le8_3, le8_4, le8_5, le8_6, le8_7, le8_8, Classical.not_not, aT40, aT41, aT42, aT44, aT54, aT58, aT59, rT54, rT58, rT59, reduceIte, Nat.reduceEqDiff, qn_42, qn_44, true_implies, not_true_eq_false, not_false_eq_true, false_implies, ↓shO_of h4.1.1.1, ↓rrf_of h4.1.1.2.2.1, ↓shO_of hQ4.1.1, hQ4.2.1, ↓shO_of rec4.1.1]
  refine k81 rec4 ⟨_, rfl, ?_⟩
  have e128 : (128 : Int32) + nI (q.1 % 2) = nI (128 + q.1 % 2) := by rw [n_128, nI_add]
  have hp2 := Nat.mod_lt q.1 (show 0 < 2 by omega)
  refine vc_X 30 _ _ _ _ _ _ _ ?_
  simp only [↓v78_0, ↓v78_3, ↓v78_4, ↓v78_5, ↓v78_8, ↓v78_11, ↓v78_12, ↓v78_13, ↓v78_14, ↓v78_17, ↓v78_18, ↓v78_21, ↓v78_22, ↓v78_25, ↓v78_28, ↓v78_31, ↓v78_34, ↓v78_35, ↓v78_38, ↓v78_41, ↓v78_44, ↓v78_45, ↓v78_46, ↓v78_49, ↓v78_52, ↓v78_54, ↓v78_55, ↓v78_58, ↓v78_61, ↓v78_62, ↓v78_65, ↓v78_66, ↓v78_69, ↓v78_71, ↓v78_73, ↓v78_76, ↓v78_77, ↓v78_79, ↓v78_80, ↓v78_83, ↓v78_85, ↓v78_86, ↓v78_89, ↓v78_90, ↓v78_93, ↓v78_96, ↓v78_99, ↓v78_100, ↓v78_102, ↓v78_104, ↓v78_106, ↓v78_109, ↓v78_110, ↓v78_113, ↓v78_115, ↓v78_118, ↓v78_120, ↓v78_122, ↓v78_125, ↓v78_127, ↓v78_129, ↓v78_130, ↓v78_131, ↓v78_134, ↓v78_136, ↓v78_137, ↓v78_140, ↓v78_143, ↓v78_145, ↓v78_147, ↓v78_150, ↓v78_153, ↓v78_156, ↓v78_157, ↓v78_158, ↓v78_161, ↓v78_162, ↓v78_164, ↓v78_167, ↓v78_170, ↓qI_c, ↓qL_c, ↓qR_c, ↓pA_o, ↓qC_i, ↓qC_r, ↓oA_s, ↓gI_0, ↓gI_1, ↓gI_2, ↓gI_3, ↓gI_4, ↓gI_5, ↓gI_6, ↓gI_7, ↓gI_8, ↓gI_9, ↓gI_10, ↓gR_0, ↓gR_1, ↓gR_2, ↓gR_3, ↓gR_4, ↓gR_5, ↓gR_6, ↓gR_7, ↓gR_8, ↓gR_9, ↓gR_10, ↓sL_0, ↓sL_1, ↓sL_2, ↓sL_3, ↓sL_4, ↓sL_5, ↓sL_6, ↓sL_7, ↓sL_8, ↓sL_9, ↓sL_10, ↓rrf_si, ↓rrf_sg, ↓shO_si, ↓shO_sg, ↓shO_sr, ↓shA_si, ↓shA_sg, ↓shA_sr, ↓pAs_0, ↓pAs_i, ↓pAs_r, stk_n, stk_i, stk_l, stk_r, List.nil_append, List.cons_append, true_and, and_true, true_or, or_true, Nat.zero_add, dp_s, Nat.reduceAdd, le8_0, le8_1, le8_2, le8_3, le8_4, le8_5, le8_6, le8_7, le8_8, Classical.not_not, aT40, aT41, aT42, aT44, aT54, aT58, aT59, rT54, rT58, rT59, reduceIte, Nat.reduceEqDiff, qn_42, qn_44, true_implies, not_true_eq_false, not_false_eq_true, false_implies, e128, ↓shO_of hQ4.1.1]
  refine k55 hQ4 hn hm (show 128 + q.1 % 2 < 130 by omega) (fun M5 by_ q5 o5 => ⟨_, rfl, ?_⟩)
  generalize hw : b + 7 + 2 + 2 * Q.1 Q.2.2.length = w
  have hpm := (q5.1.2.2.2.1 Q.2.2.length hn).2
  have g5 : Ag (fun y => ¬ PQ (b + 7) y) M4 M5 := o5.ag (fun _ h => h)
  have hB5 : CpB M5 b := h4.1.ag g5 (fun x hx => by unfold PQ; omega) (by rw [o5.2.1]; exact Nat.le_refl _)
  have wx5 := (q5.2.2.2.2.2 Q.2.2.length _ (by rw [List.getElem?_append_right (Nat.le_refl _), Nat.sub_self]; rfl)).2
  rw [hw] at wx5
  have f15 : M5.it b 15 = oI F.2.2.1 := by rw [g5.it (show ¬ PQ (b + 7) b by unfold PQ; omega)]; exact h4.2.2.2.2.2.2.2.2.2.2.1
  have hwb : w ≠ b := by omega
  generalize hM6 : M5.sr w 4 (some M.sz) = M6
  have o6 : Of (· = w) M5 M6 := by rw [← hM6]; exact (Of.rf_ : Of (· = w) M5 M5).r rfl
  have wx6 : WrC M6 w (Q.1 Q.2.2.length, Q.2.1, 128 + q.1 % 2, some M.sz, by_, fun _ => false) := by
    obtain ⟨r1, r2, r3, r4, r5, r6, r7⟩ := wx5
    rw [← hM6]
    refine ⟨⟨r1.1, ?_, r1.2.2.1, r1.2.2.2⟩, r2, r3, ?_, r5, r6, r7⟩
    · rw [sr_rf, if_neg (by simp)]; exact r1.2.1
    · rw [sr_rf, if_pos ⟨rfl, rfl⟩]
  have o6' : Of (fun y => y = b + 7 + 2 + 2 * Q.1 Q.2.2.length ∨ y = b + 7 + 2 + 2 * Q.1 Q.2.2.length + 1) M5 M6 := o6.mono (fun x hx => Or.inl (by rw [hw]; exact hx))
  have q6 : QuC M6 (b + 7) Q.1 (Q.2.1 + 1) (Q.2.2 ++ [(Q.1 Q.2.2.length, Q.2.1, 128 + q.1 % 2, some M.sz, by_, fun _ => false)]) := by
    have := q5.upd (i := Q.2.2.length) (by rw [List.length_append]; simp) (x' := (Q.1 Q.2.2.length, Q.2.1, 128 + q.1 % 2, some M.sz, by_, fun _ => false)) rfl (by rw [hw]; exact wx6) o6'
    rw [List.set_append_right _ _ (Nat.le_refl _), Nat.sub_self] at this
    exact this
  have hB6 : CpB M6 b := hB5.ag (P := fun y => ¬ y = w) (o6.ag (fun _ h => h)) (fun x hx => by omega) (by rw [o6.2.1]; exact Nat.le_refl _)
  have f15' : M6.it b 15 = oI F.2.2.1 := by rw [(o6.2.2.2 b (fun c => hwb c.symm) 15).1]; exact f15
  refine vc_X 40 _ _ _ _ _ _ _ ?_
  simp only [↓v78_0, ↓v78_3, ↓v78_4, ↓v78_5, ↓v78_8, ↓v78_11, ↓v78_12, ↓v78_13, ↓v78_14, ↓v78_17, ↓v78_18, ↓v78_21, ↓v78_22, ↓v78_25, ↓v78_28, ↓v78_31, ↓v78_34, ↓v78_35, ↓v78_38, ↓v78_41, ↓v78_44, ↓v78_45, ↓v78_46, ↓v78_49, ↓v78_52, ↓v78_54, ↓v78_55, ↓v78_58, ↓v78_61, ↓v78_62, ↓v78_65, ↓v78_66, ↓v78_69, ↓v78_71, ↓v78_73, ↓v78_76, ↓v78_77, ↓v78_79, ↓v78_80, ↓v78_83, ↓v78_85, ↓v78_86, ↓v78_89, ↓v78_90, ↓v78_93, ↓v78_96, ↓v78_99, ↓v78_100, ↓v78_102, ↓v78_104, ↓v78_106, ↓v78_109, ↓v78_110, ↓v78_113, ↓v78_115, ↓v78_118, ↓v78_120, ↓v78_122, ↓v78_125, ↓v78_127, ↓v78_129, ↓v78_130, ↓v78_131, ↓v78_134, ↓v78_136, ↓v78_137, ↓v78_140, ↓v78_143, ↓v78_145, ↓v78_147, ↓v78_150, ↓v78_153, ↓v78_156, ↓v78_157, ↓v78_158, ↓v78_161, ↓v78_162, ↓v78_164, ↓v78_167, ↓v78_170, ↓qI_c, ↓qL_c, ↓qR_c, ↓pA_o, ↓qC_i, ↓qC_r, ↓oA_s, ↓gI_0, ↓gI_1, ↓gI_2, ↓gI_3, ↓gI_4, ↓gI_5, ↓gI_6, ↓gI_7, ↓gI_8, ↓gI_9, ↓gI_10, ↓gR_0, ↓gR_1, ↓gR_2, ↓gR_3, ↓gR_4, ↓gR_5, ↓gR_6, ↓gR_7, ↓gR_8, ↓gR_9, ↓gR_10, ↓sL_0, ↓sL_1, ↓sL_2, ↓sL_3, ↓sL_4, ↓sL_5, ↓sL_6, ↓sL_7, ↓sL_8, ↓sL_9, ↓sL_10, ↓rrf_si, ↓rrf_sg, ↓shO_si, ↓shO_sg, ↓shO_sr, ↓shA_si, ↓shA_sg, ↓shA_sr, ↓pAs_0, ↓pAs_i, ↓pAs_r, stk_n, stk_i, stk_l, stk_r, List.nil_append, List.cons_append, true_and, and_true, true_or, or_true, Nat.zero_add, dp_s, Nat.reduceAdd, le8_0, le8_1, le8_2, le8_3, le8_4, le8_5, le8_6, le8_7, le8_8, Classical.not_not, aT40, aT41, aT42, aT44, aT54, aT58, aT59, rT54, rT58, rT59, reduceIte, Nat.reduceEqDiff, qn_42, qn_44, true_implies, not_true_eq_false, not_false_eq_true, false_implies, sn, ↓shO_of wx5.1.1, hM6, ↓shO_of hB5.1.1, ↓shO_of hB6.1.1, ↓rrf_of hB6.1.2.2.1, f15', ↓shO_of q5.1.1, ↓shO_of q6.1.1]
  refine k54o q6 (fun n hn2 => by have := hlw n hn2; omega) ⟨_, rfl, ?_⟩
  rw [nuA_app (show F.2.2.1 ≠ some Q.2.1 from fun c => by have := hlw _ c; omega)]
  have rcq : RcC M4 b (gU F.1 M.sz q) M.sz := ⟨by unfold gU; rw [if_pos rfl]; exact rec4, Or.inr (by omega), by omega⟩
  have oQ6 : Of (PQ (b + 7)) M4 M6 := o5.trans o6 (fun x hx => by rw [hx]; unfold PQ; omega)
  have fin : ∀ M7, WrC M7 w (rX Q.1 Q.2.1 (128 + q.1 % 2) M.sz own F.2.2.1 e0 by_ Q.2.2 0) → Of (· = w) M6 M7 → X (d + 2) 78 99 [some (.inr (some b)), some (.inl (nI own)), some (.inl (oI e0)), some (.inr (some M.sz)), some (.inl (nI Q.2.2.length)), some (.inr (some w)), none, none] [] M7 k := by
    intro M7 wx7 o7
    have o7' : Of (fun y => y = b + 7 + 2 + 2 * Q.1 Q.2.2.length ∨ y = b + 7 + 2 + 2 * Q.1 Q.2.2.length + 1) M6 M7 := o7.mono (fun x hx => Or.inl (by rw [hw]; exact hx))
    have q7 : QuC M7 (b + 7) Q.1 (Q.2.1 + 1) (Q.2.2 ++ [rX Q.1 Q.2.1 (128 + q.1 % 2) M.sz own F.2.2.1 e0 by_ Q.2.2 0]) := by
      have := q6.upd (i := Q.2.2.length) (by rw [List.length_append]; simp) (x' := rX Q.1 Q.2.1 (128 + q.1 % 2) M.sz own F.2.2.1 e0 by_ Q.2.2 0) rfl (by rw [hw]; exact wx7) o7'
      rw [List.set_append_right _ _ (Nat.le_refl _), Nat.sub_self] at this
      exact this
    have oQ7 : Of (PQ (b + 7)) M4 M7 := oQ6.trans o7 (fun x hx => by rw [hx]; unfold PQ; omega)
    have h7 := hG4.upQ q7 oQ7 (fun j x y hj hy => by
      by_cases hlt : j < Q.2.2.length
      · rw [List.getElem?_append_left hlt] at hj
        exact hG4.2.2.1.2 j x y hj hy
      · have hl2 := (List.getElem?_eq_some_iff.mp hj).1
        rw [List.length_append] at hl2
        have e : j = Q.2.2.length := by simp at hl2; omega
        subst e
        rw [List.getElem?_append_right (Nat.le_refl _), Nat.sub_self] at hj
        cases hj
        cases hy
        exact rcq)
    rw [← hw]
    refine vc_X 30 _ _ _ _ _ _ _ ?_
    simp only [↓v78_0, ↓v78_3, ↓v78_4, ↓v78_5, ↓v78_8, ↓v78_11, ↓v78_12, ↓v78_13, ↓v78_14, ↓v78_17, ↓v78_18, ↓v78_21, ↓v78_22, ↓v78_25, ↓v78_28, ↓v78_31, ↓v78_34, ↓v78_35, ↓v78_38, ↓v78_41, ↓v78_44, ↓v78_45, ↓v78_46, ↓v78_49, ↓v78_52, ↓v78_54, ↓v78_55, ↓v78_58, ↓v78_61, ↓v78_62, ↓v78_65, ↓v78_66, ↓v78_69, ↓v78_71, ↓v78_73, ↓v78_76, ↓v78_77, ↓v78_79, ↓v78_80, ↓v78_83, ↓v78_85, ↓v78_86, ↓v78_89, ↓v78_90, ↓v78_93, ↓v78_96, ↓v78_99, ↓v78_100, ↓v78_102, ↓v78_104, ↓v78_106, ↓v78_109, ↓v78_110, ↓v78_113, ↓v78_115, ↓v78_118, ↓v78_120, ↓v78_122, ↓v78_125, ↓v78_127, ↓v78_129, ↓v78_130, ↓v78_131, ↓v78_134, ↓v78_136, ↓v78_137, ↓v78_140, ↓v78_143, ↓v78_145, ↓v78_147, ↓v78_150, ↓v78_153, ↓v78_156, ↓v78_157, ↓v78_158, ↓v78_161, ↓v78_162, ↓v78_164, ↓v78_167, ↓v78_170, ↓qI_c, ↓qL_c, ↓qR_c, ↓pA_o, ↓qC_i, ↓qC_r, ↓oA_s, ↓gI_0, ↓gI_1, ↓gI_2, ↓gI_3, ↓gI_4, ↓gI_5, ↓gI_6, ↓gI_7, ↓gI_8, ↓gI_9, ↓gI_10, ↓gR_0, ↓gR_1, ↓gR_2, ↓gR_3, ↓gR_4, ↓gR_5, ↓gR_6, ↓gR_7, ↓gR_8, ↓gR_9, ↓gR_10, ↓sL_0, ↓sL_1, ↓sL_2, ↓sL_3, ↓sL_4, ↓sL_5, ↓sL_6, ↓sL_7, ↓sL_8, ↓sL_9, ↓sL_10, ↓rrf_si, ↓rrf_sg, ↓shO_si, ↓shO_sg, ↓shO_sr, ↓shA_si, ↓shA_sg, ↓shA_sr, ↓pAs_0, ↓pAs_i, ↓pAs_r, stk_n, stk_i, stk_l, stk_r, List.nil_append, List.cons_append, true_and, and_true, true_or, or_true, Nat.zero_add, dp_s, Nat.reduceAdd, le8_0, le8_1, le8_2, le8_3, le8_4, le8_5, le8_6, le8_7, le8_8, Classical.not_not, aT40, aT41, aT42, aT44, aT54, aT58, aT59, rT54, rT58, rT59, reduceIte, Nat.reduceEqDiff, qn_42, qn_44, true_implies, not_true_eq_false, not_false_eq_true, false_implies]
    refine lop78 hown hn he0 Q.2.2.length 0 M7 _ (by omega) h7 (fun M8 h8 o8 => ?_)
    have oQ8 : Of (PQ (b + 7)) M4 M8 := oQ7.trans o8 (fun _ x => x)
    have rc8 : RcC M8 b (gU F.1 M.sz q) M.sz := h8.2.2.1.2 Q.2.2.length (rX Q.1 Q.2.1 (128 + q.1 % 2) M.sz own F.2.2.1 e0 by_ Q.2.2 Q.2.2.length) M.sz (by rw [List.getElem?_append_right (Nat.le_refl _), Nat.sub_self]; rfl) rfl
    have o9 : Of (· = b) M8 ((M8.sr b 14 (some M.sz)).si b 15 (nI Q.2.1)) := ((Of.rf_ : Of (· = b) M8 M8).r rfl).i rfl
    have hF8 := h8.2.2.2.2.2.2.2.2
    rw [hq] at hk
    refine hk _ by_ ?_ ?_ ?_ ?_
    · refine h8.upF (F' := (gU F.1 M.sz q, M.sz, some Q.2.1, F.2.2.2)) ⟨?_, ?_, ?_, ?_, ?_, ?_, hF8.2.2.2.2.2.2⟩ rfl o9 (fun j hj => ?_)
      · show (M8.sr b 14 (some M.sz)).rf b 14 = some M.sz
        rw [sr_rf, if_pos ⟨rfl, rfl⟩]
      · exact rc8.ag (P := fun y => ¬ y = b) (o9.ag (fun _ h => h)) (fun x hx => by omega) (Nat.le_refl _)
      · rw [si_it, if_pos ⟨rfl, rfl⟩]; rfl
      · rw [si_it, if_neg (by simp)]; exact hF8.2.2.2.1
      · rw [si_it, if_neg (by simp)]; exact hF8.2.2.2.2.1
      · rw [si_it, if_neg (by simp)]; exact hF8.2.2.2.2.2.1
      · show (M8.sr b 14 (some M.sz)).rf b j = _
        rw [sr_rf, if_neg (fun c => hj c.2)]
    · rw [o9.2.1, oQ8.2.1]; exact z4
    · rw [o9.2.2.1, oQ8.2.2.1]; exact l4
    · exact ((g4.mono (R := fun y => y < M.sz ∧ ¬ (y = b ∨ PQ (b + 7) y)) (fun x hx => hx.1)).trans (oQ8.ag (R := fun y => ¬ PQ (b + 7) y) (fun _ h => h)) (fun x hx hP => hx.2 (Or.inr hP))).trans (o9.ag (R := fun y => ¬ y = b) (fun _ h => h)) (fun x hx hP => hx.2 (Or.inl hP))
  have e0' : ∀ f : Nat → Bool, (∀ s, f s = seB Q.1 (nuA Q.2.2 F.2.2.1) s) → (Q.1 Q.2.2.length, Q.2.1, 128 + q.1 % 2, some M.sz, by_, f) = rX Q.1 Q.2.1 (128 + q.1 % 2) M.sz own F.2.2.1 e0 by_ Q.2.2 0 := by
    intro f hf
    have : f = fun s => seB Q.1 (nuA Q.2.2 F.2.2.1) s || rcB Q.1 (cR Q.2.2 own e0) 0 s := by
      funext s
      rw [hf s]
      exact (Bool.or_false _).symm
    rw [this]
    rfl
  cases hnu : nuA Q.2.2 F.2.2.1 with
  | none =>
    have e : adO (b + 7) Q.1 none = none := rfl
    rw [e]
    refine vc_X 30 _ _ _ _ _ _ _ ?_
    simp only [↓v78_0, ↓v78_3, ↓v78_4, ↓v78_5, ↓v78_8, ↓v78_11, ↓v78_12, ↓v78_13, ↓v78_14, ↓v78_17, ↓v78_18, ↓v78_21, ↓v78_22, ↓v78_25, ↓v78_28, ↓v78_31, ↓v78_34, ↓v78_35, ↓v78_38, ↓v78_41, ↓v78_44, ↓v78_45, ↓v78_46, ↓v78_49, ↓v78_52, ↓v78_54, ↓v78_55, ↓v78_58, ↓v78_61, ↓v78_62, ↓v78_65, ↓v78_66, ↓v78_69, ↓v78_71, ↓v78_73, ↓v78_76, ↓v78_77, ↓v78_79, ↓v78_80, ↓v78_83, ↓v78_85, ↓v78_86, ↓v78_89, ↓v78_90, ↓v78_93, ↓v78_96, ↓v78_99, ↓v78_100, ↓v78_102, ↓v78_104, ↓v78_106, ↓v78_109, ↓v78_110, ↓v78_113, ↓v78_115, ↓v78_118, ↓v78_120, ↓v78_122, ↓v78_125, ↓v78_127, ↓v78_129, ↓v78_130, ↓v78_131, ↓v78_134, ↓v78_136, ↓v78_137, ↓v78_140, ↓v78_143, ↓v78_145, ↓v78_147, ↓v78_150, ↓v78_153, ↓v78_156, ↓v78_157, ↓v78_158, ↓v78_161, ↓v78_162, ↓v78_164, ↓v78_167, ↓v78_170, ↓qI_c, ↓qL_c, ↓qR_c, ↓pA_o, ↓qC_i, ↓qC_r, ↓oA_s, ↓gI_0, ↓gI_1, ↓gI_2, ↓gI_3, ↓gI_4, ↓gI_5, ↓gI_6, ↓gI_7, ↓gI_8, ↓gI_9, ↓gI_10, ↓gR_0, ↓gR_1, ↓gR_2, ↓gR_3, ↓gR_4, ↓gR_5, ↓gR_6, ↓gR_7, ↓gR_8, ↓gR_9, ↓gR_10, ↓sL_0, ↓sL_1, ↓sL_2, ↓sL_3, ↓sL_4, ↓sL_5, ↓sL_6, ↓sL_7, ↓sL_8, ↓sL_9, ↓sL_10, ↓rrf_si, ↓rrf_sg, ↓shO_si, ↓shO_sg, ↓shO_sr, ↓shA_si, ↓shA_sg, ↓shA_sr, ↓pAs_0, ↓pAs_i, ↓pAs_r, stk_n, stk_i, stk_l, stk_r, List.nil_append, List.cons_append, true_and, and_true, true_or, or_true, Nat.zero_add, dp_s, Nat.reduceAdd, le8_0, le8_1, le8_2, le8_3, le8_4, le8_5, le8_6, le8_7, le8_8, Classical.not_not, aT40, aT41, aT42, aT44, aT54, aT58, aT59, rT54, rT58, rT59, reduceIte, Nat.reduceEqDiff, qn_42, qn_44, true_implies, not_true_eq_false, not_false_eq_true, false_implies, ↓shO_of wx6.1.1]
    refine k58n ⟨rfl, ?_⟩
    refine fin M6 ?_ Of.rf_
    rw [← e0' (fun _ => false) (fun s => by rw [hnu]; rfl)]
    exact wx6
  | some i =>
    have e : adO (b + 7) Q.1 (some i) = some (b + 7 + 2 + 2 * Q.1 i) := rfl
    rw [e]
    have hi2 : i < Q.2.2.length := by
      unfold nuA at hnu
      have := (fst_spec _ _ _ _ hnu).2.2
      omega
    refine vc_X 30 _ _ _ _ _ _ _ ?_
    simp only [↓v78_0, ↓v78_3, ↓v78_4, ↓v78_5, ↓v78_8, ↓v78_11, ↓v78_12, ↓v78_13, ↓v78_14, ↓v78_17, ↓v78_18, ↓v78_21, ↓v78_22, ↓v78_25, ↓v78_28, ↓v78_31, ↓v78_34, ↓v78_35, ↓v78_38, ↓v78_41, ↓v78_44, ↓v78_45, ↓v78_46, ↓v78_49, ↓v78_52, ↓v78_54, ↓v78_55, ↓v78_58, ↓v78_61, ↓v78_62, ↓v78_65, ↓v78_66, ↓v78_69, ↓v78_71, ↓v78_73, ↓v78_76, ↓v78_77, ↓v78_79, ↓v78_80, ↓v78_83, ↓v78_85, ↓v78_86, ↓v78_89, ↓v78_90, ↓v78_93, ↓v78_96, ↓v78_99, ↓v78_100, ↓v78_102, ↓v78_104, ↓v78_106, ↓v78_109, ↓v78_110, ↓v78_113, ↓v78_115, ↓v78_118, ↓v78_120, ↓v78_122, ↓v78_125, ↓v78_127, ↓v78_129, ↓v78_130, ↓v78_131, ↓v78_134, ↓v78_136, ↓v78_137, ↓v78_140, ↓v78_143, ↓v78_145, ↓v78_147, ↓v78_150, ↓v78_153, ↓v78_156, ↓v78_157, ↓v78_158, ↓v78_161, ↓v78_162, ↓v78_164, ↓v78_167, ↓v78_170, ↓qI_c, ↓qL_c, ↓qR_c, ↓pA_o, ↓qC_i, ↓qC_r, ↓oA_s, ↓gI_0, ↓gI_1, ↓gI_2, ↓gI_3, ↓gI_4, ↓gI_5, ↓gI_6, ↓gI_7, ↓gI_8, ↓gI_9, ↓gI_10, ↓gR_0, ↓gR_1, ↓gR_2, ↓gR_3, ↓gR_4, ↓gR_5, ↓gR_6, ↓gR_7, ↓gR_8, ↓gR_9, ↓gR_10, ↓sL_0, ↓sL_1, ↓sL_2, ↓sL_3, ↓sL_4, ↓sL_5, ↓sL_6, ↓sL_7, ↓sL_8, ↓sL_9, ↓sL_10, ↓rrf_si, ↓rrf_sg, ↓shO_si, ↓shO_sg, ↓shO_sr, ↓shA_si, ↓shA_sg, ↓shA_sr, ↓pAs_0, ↓pAs_i, ↓pAs_r, stk_n, stk_i, stk_l, stk_r, List.nil_append, List.cons_append, true_and, and_true, true_or, or_true, Nat.zero_add, dp_s, Nat.reduceAdd, le8_0, le8_1, le8_2, le8_3, le8_4, le8_5, le8_6, le8_7, le8_8, Classical.not_not, aT40, aT41, aT42, aT44, aT54, aT58, aT59, rT54, rT58, rT59, reduceIte, Nat.reduceEqDiff, qn_42, qn_44, true_implies, not_true_eq_false, not_false_eq_true, false_implies, ↓shO_of wx6.1.1]
    refine k58 wx6 (q6.seat (t := Q.1 i) (q6.1.2.2.2.1 i (by omega)).2) (fun M7 wx7 o7 => ⟨rfl, ?_⟩)
    refine fin M7 ?_ o7
    rw [← e0' (fun s => (false || decide (s = Q.1 i))) (fun s => by rw [hnu, Bool.false_or]; rfl)]
    exact wx7
end
