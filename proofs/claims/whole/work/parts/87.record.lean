/-! makeRecord -/
/-- the seats of those of the first n that are such -/
def rcB (pm : Nat → Nat) (c : Nat → Bool) : Nat → Nat → Bool
  | 0, _ => false
  | k + 1, s => rcB pm c k s || (c k && decide (s = pm k))
/-- for which of the others a record waits: the table's own, those of the extent -/
def cR (ws : List WT) (own : Nat) (e0 : Option Nat) (k : Nat) : Bool := decide (ws.length - own ≤ k) || match ws[k]? with
  | some x => decide (x.2.2.1 < 128) && (e0 == some (x.2.2.1 / 16))
  | none => false
/-- the record's write, with those of the first i looked at -/
def rX (pm : Nat → Nat) (made t a own : Nat) (lw e0 : Option Nat) (by_ : Nat → Int32) (ws : List WT) (i : Nat) : WT := (pm ws.length, made, t, some a, by_, fun s => seB pm (nuA ws lw) s || rcB pm (cR ws own e0) i s)
section
variable {D : DT} {C : List Nat × Nat} {L : (Nat → Nat) × Option Nat} {I : IT} {T : List Nat × List Nat} {E : (Nat → Option Nat) × (Nat → Bool)} {F : FT}
theorem lop78 {d : Nat} {k : mQ} {b t a own made : Nat} {pm : Nat → Nat} {lw e0 : Option Nat} {by_ : Nat → Int32} {ws : List WT} (hown : own ≤ ws.length) (hn : ws.length < 120) (he0 : ∀ e, e0 = some e → e < 8) : ∀ (m i : Nat) (M : Mm) (z7 : Option mL), i + m = ws.length → CP M b D (pm, made + 1, ws ++ [rX pm made t a own lw e0 by_ ws i]) C L I T E F → (∀ M', CP M' b D (pm, made + 1, ws ++ [rX pm made t a own lw e0 by_ ws ws.length]) C L I T E F → Of (PQ (b + 7)) M M' → k none ((M'.sr b 14 (some a)).si b 15 (nI made))) →
    X (d + 2) 78 102 [some (.inr (some b)), some (.inl (nI own)), some (.inl (oI e0)), some (.inr (some a)), some (.inl (nI ws.length)), some (.inr (some (b + 7 + 2 + 2 * pm ws.length))), some (.inl (nI i)), z7] [] M k := by
  intro m
  induction m with
  | zero =>
    intro i M z7 hi h hk
    have e : i = ws.length := by omega
    subst e
    have hq : QuC M (b + 7) pm (made + 1) (ws ++ [rX pm made t a own lw e0 by_ ws ws.length]) := h.2.2.1.1
    have wx := (hq.2.2.2.2.2 ws.length (rX pm made t a own lw e0 by_ ws ws.length) (by rw [List.getElem?_append_right (Nat.le_refl _), Nat.sub_self]; rfl)).2
    have wn : M.it (b + 7 + 2 + 2 * pm ws.length) 2 = nI made := wx.2.1
    refine vc_X 40 _ _ _ _ _ _ _ ?_
    simp only [↓v78_0, ↓v78_3, ↓v78_4, ↓v78_5, ↓v78_8, ↓v78_11, ↓v78_12, ↓v78_13, ↓v78_14, ↓v78_17, ↓v78_18, ↓v78_21, ↓v78_22, ↓v78_25, ↓v78_28, ↓v78_31, ↓v78_34, ↓v78_35, ↓v78_38, ↓v78_41, ↓v78_44, ↓v78_45, ↓v78_46, ↓v78_49, ↓v78_52, ↓v78_54, ↓v78_55, ↓v78_58, ↓v78_61, ↓v78_62, ↓v78_65, ↓v78_66, ↓v78_69, ↓v78_71, ↓v78_73, ↓v78_76, ↓v78_77, ↓v78_79, ↓v78_80, ↓v78_83, ↓v78_85, ↓v78_86, ↓v78_89, ↓v78_90, ↓v78_93, ↓v78_96, ↓v78_99, ↓v78_100, ↓v78_102, ↓v78_104, ↓v78_106, ↓v78_109, ↓v78_110, ↓v78_113, ↓v78_115, ↓v78_118, ↓v78_120, ↓v78_122, ↓v78_125, ↓v78_127, ↓v78_129, ↓v78_130, ↓v78_131, ↓v78_134, ↓v78_136, ↓v78_137, ↓v78_140, ↓v78_143, ↓v78_145, ↓v78_147, ↓v78_150, ↓v78_153, ↓v78_156, ↓v78_157, ↓v78_158, ↓v78_161, ↓v78_162, ↓v78_164, ↓v78_167, ↓v78_170, ↓qI_c, ↓qL_c, ↓qR_c, ↓pA_o, ↓qC_i, ↓qC_r, ↓oA_s, ↓gI_0, ↓gI_1, ↓gI_2, ↓gI_3, ↓gI_4, ↓gI_5, ↓gI_6, ↓gI_7, ↓gI_8, ↓gI_9, ↓gI_10, ↓gR_0, ↓gR_1, ↓gR_2, ↓gR_3, ↓gR_4, ↓gR_5, ↓gR_6, ↓gR_7, ↓gR_8, ↓gR_9, ↓gR_10, ↓sL_0, ↓sL_1, ↓sL_2, ↓sL_3, ↓sL_4, ↓sL_5, ↓sL_6, ↓sL_7, ↓sL_8, ↓sL_9, ↓sL_10, ↓rrf_si, ↓rrf_sg, ↓shO_si, ↓shO_sg, ↓shO_sr, ↓shA_si, ↓shA_sg, ↓shA_sr, ↓pAs_0, ↓pAs_i, ↓pAs_r, stk_n, stk_i, stk_l, stk_r, List.nil_append, List.cons_append, true_and, and_true, true_or, or_true, Nat.zero_add, dp_s, Nat.reduceAdd, le8_0, le8_1, le8_2, le8_3, le8_4, le8_5, le8_6, le8_7, le8_8, Classical.not_not, aT40, aT41, aT42, aT44, aT54, aT58, aT59, rT54, rT58, rT59, reduceIte, Nat.reduceEqDiff, qn_42, qn_44, true_implies, not_true_eq_false, not_false_eq_true, false_implies, le_T, nT (show ws.length < 2147483648 by omega), Int.le_refl, ↓shO_of h.1.1.1, ↓shO_of wx.1.1, wn]
    exact hk M h Of.rf_
  | succ m ih =>
    intro i M z7 hi h hk
    have hq : QuC M (b + 7) pm (made + 1) (ws ++ [rX pm made t a own lw e0 by_ ws i]) := h.2.2.1.1
    have hxi : ws[i]? = some ws[i] := List.getElem?_eq_getElem (by omega)
    have hxi' : (ws ++ [rX pm made t a own lw e0 by_ ws i])[i]? = some ws[i] := by rw [List.getElem?_append_left (by omega)]; exact hxi
    have wx := (hq.2.2.2.2.2 ws.length (rX pm made t a own lw e0 by_ ws i) (by rw [List.getElem?_append_right (Nat.le_refl _), Nat.sub_self]; rfl)).2
    have next : ∀ M2 z, CP M2 b D (pm, made + 1, ws ++ [rX pm made t a own lw e0 by_ ws (i + 1)]) C L I T E F → Of (PQ (b + 7)) M M2 → X (d + 2) 78 150 [some (.inr (some b)), some (.inl (nI own)), some (.inl (oI e0)), some (.inr (some a)), some (.inl (nI ws.length)), some (.inr (some (b + 7 + 2 + 2 * pm ws.length))), some (.inl (nI i)), z] [] M2 k := by
      intro M2 z h2 o2
      refine vc_X 30 _ _ _ _ _ _ _ ?_
      simp only [↓v78_0, ↓v78_3, ↓v78_4, ↓v78_5, ↓v78_8, ↓v78_11, ↓v78_12, ↓v78_13, ↓v78_14, ↓v78_17, ↓v78_18, ↓v78_21, ↓v78_22, ↓v78_25, ↓v78_28, ↓v78_31, ↓v78_34, ↓v78_35, ↓v78_38, ↓v78_41, ↓v78_44, ↓v78_45, ↓v78_46, ↓v78_49, ↓v78_52, ↓v78_54, ↓v78_55, ↓v78_58, ↓v78_61, ↓v78_62, ↓v78_65, ↓v78_66, ↓v78_69, ↓v78_71, ↓v78_73, ↓v78_76, ↓v78_77, ↓v78_79, ↓v78_80, ↓v78_83, ↓v78_85, ↓v78_86, ↓v78_89, ↓v78_90, ↓v78_93, ↓v78_96, ↓v78_99, ↓v78_100, ↓v78_102, ↓v78_104, ↓v78_106, ↓v78_109, ↓v78_110, ↓v78_113, ↓v78_115, ↓v78_118, ↓v78_120, ↓v78_122, ↓v78_125, ↓v78_127, ↓v78_129, ↓v78_130, ↓v78_131, ↓v78_134, ↓v78_136, ↓v78_137, ↓v78_140, ↓v78_143, ↓v78_145, ↓v78_147, ↓v78_150, ↓v78_153, ↓v78_156, ↓v78_157, ↓v78_158, ↓v78_161, ↓v78_162, ↓v78_164, ↓v78_167, ↓v78_170, ↓qI_c, ↓qL_c, ↓qR_c, ↓pA_o, ↓qC_i, ↓qC_r, ↓oA_s, ↓gI_0, ↓gI_1, ↓gI_2, ↓gI_3, ↓gI_4, ↓gI_5, ↓gI_6, ↓gI_7, ↓gI_8, ↓gI_9, ↓gI_10, ↓gR_0, ↓gR_1, ↓gR_2, ↓gR_3, ↓gR_4, ↓gR_5, ↓gR_6, ↓gR_7, ↓gR_8, ↓gR_9, ↓gR_10, ↓sL_0, ↓sL_1, ↓sL_2, ↓sL_3, ↓sL_4, ↓sL_5, ↓sL_6, ↓sL_7, ↓sL_8, ↓sL_9, ↓sL_10, ↓rrf_si, ↓rrf_sg, ↓shO_si, ↓shO_sg, ↓shO_sr, ↓shA_si, ↓shA_sg, ↓shA_sr, ↓pAs_0, ↓pAs_i, ↓pAs_r, stk_n, stk_i, stk_l, stk_r, List.nil_append, List.cons_append, true_and, and_true, true_or, or_true, Nat.zero_add, dp_s, Nat.reduceAdd, le8_0, le8_1, le8_2, le8_3, le8_4, le8_5, le8_6, le8_7, le8_8, Classical.not_not, aT40, aT41, aT42, aT44, aT54, aT58, aT59, rT54, rT58, rT59, reduceIte, Nat.reduceEqDiff, qn_42, qn_44, true_implies, not_true_eq_false, not_false_eq_true, false_implies, nI_1]
      exact ih (i + 1) M2 _ (by omega) h2 (fun M' h' o' => hk M' h' (o2.trans o' (fun _ x => x)))
    have same : cR ws own e0 i = false → rX pm made t a own lw e0 by_ ws (i + 1) = rX pm made t a own lw e0 by_ ws i := by
      intro hc
      have : (fun s => seB pm (nuA ws lw) s || rcB pm (cR ws own e0) (i + 1) s) = fun s => seB pm (nuA ws lw) s || rcB pm (cR ws own e0) i s := by
        funext s
        show (_ || (_ || (cR ws own e0 i && _))) = _
        rw [hc, Bool.false_and, Bool.or_false]
      unfold rX
      rw [this]
    have more : cR ws own e0 i = true → X (d + 2) 78 143 [some (.inr (some b)), some (.inl (nI own)), some (.inl (oI e0)), some (.inr (some a)), some (.inl (nI ws.length)), some (.inr (some (b + 7 + 2 + 2 * pm ws.length))), some (.inl (nI i)), some (.inr (some (b + 7 + 2 + 2 * pm i)))] [] M k := by
      intro hc
      have hpi := (hq.1.2.2.2.1 i (by omega)).2
      refine vc_X 30 _ _ _ _ _ _ _ ?_
      simp only [↓v78_0, ↓v78_3, ↓v78_4, ↓v78_5, ↓v78_8, ↓v78_11, ↓v78_12, ↓v78_13, ↓v78_14, ↓v78_17, ↓v78_18, ↓v78_21, ↓v78_22, ↓v78_25, ↓v78_28, ↓v78_31, ↓v78_34, ↓v78_35, ↓v78_38, ↓v78_41, ↓v78_44, ↓v78_45, ↓v78_46, ↓v78_49, ↓v78_52, ↓v78_54, ↓v78_55, ↓v78_58, ↓v78_61, ↓v78_62, ↓v78_65, ↓v78_66, ↓v78_69, ↓v78_71, ↓v78_73, ↓v78_76, ↓v78_77, ↓v78_79, ↓v78_80, ↓v78_83, ↓v78_85, ↓v78_86, ↓v78_89, ↓v78_90, ↓v78_93, ↓v78_96, ↓v78_99, ↓v78_100, ↓v78_102, ↓v78_104, ↓v78_106, ↓v78_109, ↓v78_110, ↓v78_113, ↓v78_115, ↓v78_118, ↓v78_120, ↓v78_122, ↓v78_125, ↓v78_127, ↓v78_129, ↓v78_130, ↓v78_131, ↓v78_134, ↓v78_136, ↓v78_137, ↓v78_140, ↓v78_143, ↓v78_145, ↓v78_147, ↓v78_150, ↓v78_153, ↓v78_156, ↓v78_157, ↓v78_158, ↓v78_161, ↓v78_162, ↓v78_164, ↓v78_167, ↓v78_170, ↓qI_c, ↓qL_c, ↓qR_c, ↓pA_o, ↓qC_i, ↓qC_r, ↓oA_s, ↓gI_0, ↓gI_1, ↓gI_2, ↓gI_3, ↓gI_4, ↓gI_5, ↓gI_6, ↓gI_7, ↓gI_8, ↓gI_9, ↓gI_10, ↓gR_0, ↓gR_1, ↓gR_2, ↓gR_3, ↓gR_4, ↓gR_5, ↓gR_6, ↓gR_7, ↓gR_8, ↓gR_9, ↓gR_10, ↓sL_0, ↓sL_1, ↓sL_2, ↓sL_3, ↓sL_4, ↓sL_5, ↓sL_6, ↓sL_7, ↓sL_8, ↓sL_9, ↓sL_10, ↓rrf_si, ↓rrf_sg, ↓shO_si, ↓shO_sg, ↓shO_sr, ↓shA_si, ↓shA_sg, ↓shA_sr, ↓pAs_0, ↓pAs_i, ↓pAs_r, stk_n, stk_i, stk_l, stk_r, List.nil_append, List.cons_append, true_and, and_true, true_or, or_true, Nat.zero_add, dp_s, Nat.reduceAdd, le8_0, le8_1, le8_2, le8_3, le8_4, le8_5, le8_6, le8_7, le8_8, Classical.not_not, aT40, aT41, aT42, aT44, aT54, aT58, aT59, rT54, rT58, rT59, reduceIte, Nat.reduceEqDiff, qn_42, qn_44, true_implies, not_true_eq_false, not_false_eq_true, false_implies, ↓shO_of wx.1.1]
      refine k58 wx (hq.seat (t := pm i) hpi) (fun M2 wx2 o2 => ⟨rfl, ?_⟩)
      have o2' : Of (fun y => y = b + 7 + 2 + 2 * pm ws.length ∨ y = b + 7 + 2 + 2 * pm ws.length + 1) M M2 := o2.mono (fun x hx => Or.inl hx)
      have hpn := (hq.1.2.2.2.1 ws.length hn).2
      have oA : Of (PQ (b + 7)) M M2 := o2.mono (fun x hx => by rw [hx]; unfold PQ; omega)
      have eX : rX pm made t a own lw e0 by_ ws (i + 1) = ((rX pm made t a own lw e0 by_ ws i).1, (rX pm made t a own lw e0 by_ ws i).2.1, (rX pm made t a own lw e0 by_ ws i).2.2.1, (rX pm made t a own lw e0 by_ ws i).2.2.2.1, (rX pm made t a own lw e0 by_ ws i).2.2.2.2.1, fun s => (rX pm made t a own lw e0 by_ ws i).2.2.2.2.2 s || decide (s = pm i)) := by
        have : (fun s => seB pm (nuA ws lw) s || rcB pm (cR ws own e0) (i + 1) s) = fun s => (seB pm (nuA ws lw) s || rcB pm (cR ws own e0) i s) || decide (s = pm i) := by
          funext s
          show (_ || (_ || (cR ws own e0 i && _))) = _
          rw [hc, Bool.true_and, Bool.or_assoc]
        unfold rX
        rw [this]
      rw [← eX] at wx2
      have q2 := hq.upd (i := ws.length) (by rw [List.length_append]; simp) (x' := rX pm made t a own lw e0 by_ ws (i + 1)) rfl wx2 o2'
      rw [List.set_append_right _ _ (Nat.le_refl _), Nat.sub_self] at q2
      have q2 : QuC M2 (b + 7) pm (made + 1) (ws ++ [rX pm made t a own lw e0 by_ ws (i + 1)]) := q2
      refine next M2 _ (h.upQ q2 oA (fun k x a' hk' ha => ?_)) oA
      by_cases hlt : k < ws.length
      · rw [List.getElem?_append_left hlt] at hk'
        exact h.2.2.1.2 k x a' (by rw [List.getElem?_append_left hlt]; exact hk') ha
      · have hl2 := (List.getElem?_eq_some_iff.mp hk').1
        rw [List.length_append] at hl2
        have e : k = ws.length := by simp at hl2; omega
        subst e
        rw [List.getElem?_append_right (Nat.le_refl _), Nat.sub_self] at hk'
        cases hk'
        exact h.2.2.1.2 ws.length (rX pm made t a own lw e0 by_ ws i) a' (by rw [List.getElem?_append_right (Nat.le_refl _), Nat.sub_self]; rfl) ha
    refine vc_X 40 _ _ _ _ _ _ _ ?_
    simp only [↓v78_0, ↓v78_3, ↓v78_4, ↓v78_5, ↓v78_8, ↓v78_11, ↓v78_12, ↓v78_13, ↓v78_14, ↓v78_17, ↓v78_18, ↓v78_21, ↓v78_22, ↓v78_25, ↓v78_28, ↓v78_31, ↓v78_34, ↓v78_35, ↓v78_38, ↓v78_41, ↓v78_44, ↓v78_45, ↓v78_46, ↓v78_49, ↓v78_52, ↓v78_54, ↓v78_55, ↓v78_58, ↓v78_61, ↓v78_62, ↓v78_65, ↓v78_66, ↓v78_69, ↓v78_71, ↓v78_73, ↓v78_76, ↓v78_77, ↓v78_79, ↓v78_80, ↓v78_83, ↓v78_85, ↓v78_86, ↓v78_89, ↓v78_90, ↓v78_93, ↓v78_96, ↓v78_99, ↓v78_100, ↓v78_102, ↓v78_104, ↓v78_106, ↓v78_109, ↓v78_110, ↓v78_113, ↓v78_115, ↓v78_118, ↓v78_120, ↓v78_122, ↓v78_125, ↓v78_127, ↓v78_129, ↓v78_130, ↓v78_131, ↓v78_134, ↓v78_136, ↓v78_137, ↓v78_140, ↓v78_143, ↓v78_145, ↓v78_147, ↓v78_150, ↓v78_153, ↓v78_156, ↓v78_157, ↓v78_158, ↓v78_161, ↓v78_162, ↓v78_164, ↓v78_167, ↓v78_170, ↓qI_c, ↓qL_c, ↓qR_c, ↓pA_o, ↓qC_i, ↓qC_r, ↓oA_s, ↓gI_0, ↓gI_1, ↓gI_2, ↓gI_3, ↓gI_4, ↓gI_5, ↓gI_6, ↓gI_7, ↓gI_8, ↓gI_9, ↓gI_10, ↓gR_0, ↓gR_1, ↓gR_2, ↓gR_3, ↓gR_4, ↓gR_5, ↓gR_6, ↓gR_7, ↓gR_8, ↓gR_9, ↓gR_10, ↓sL_0, ↓sL_1, ↓sL_2, ↓sL_3, ↓sL_4, ↓sL_5, ↓sL_6, ↓sL_7, ↓sL_8, ↓sL_9, ↓sL_10, ↓rrf_si, ↓rrf_sg, ↓shO_si, ↓shO_sg, ↓shO_sr, ↓shA_si, ↓shA_sg, ↓shA_sr, ↓pAs_0, ↓pAs_i, ↓pAs_r, stk_n, stk_i, stk_l, stk_r, List.nil_append, List.cons_append, true_and, and_true, true_or, or_true, Nat.zero_add, dp_s, Nat.reduceAdd, le8_0, le8_1, le8_2, le8_3, le8_4, le8_5, le8_6, le8_7, le8_8, Classical.not_not, aT40, aT41, aT42, aT44, aT54, aT58, aT59, rT54, rT58, rT59, reduceIte, Nat.reduceEqDiff, qn_42, qn_44, true_implies, not_true_eq_false, not_false_eq_true, false_implies, le_T, nT (show i < 2147483648 by omega), nT (show ws.length < 2147483648 by omega), ↓shO_of h.1.1.1, ↓rrf_of h.1.1.2.2.1, ↓shO_of hq.1.1]
    refine ⟨fun c => by omega, fun _ => ?_⟩
    refine k74 hq (fun j x ej hj => ⟨_, rfl, ?_⟩) (fun c => absurd (inB_n (by rw [List.length_append]; omega) (by rw [List.length_append]; simp; omega)) c)
    have hjl := (List.getElem?_eq_some_iff.mp hj).1
    rw [List.length_append] at hjl
    have hjl : j < ws.length + 1 := hjl
    rw [nI_eq (by omega) (by omega)] at ej
    subst ej
    rw [hxi'] at hj
    cases hj
    obtain ⟨-, wi⟩ := hq.2.2.2.2.2 i _ hxi'
    have wb := wi.2.2.2.2.2.2.2
    have cd : cR ws own e0 i = (decide (ws.length - own ≤ i) || (decide (ws[i].2.2.1 < 128) && (e0 == some (ws[i].2.2.1 / 16)))) := by unfold cR; rw [hxi]
    refine vc_X 40 _ _ _ _ _ _ _ ?_
    simp only [↓v78_0, ↓v78_3, ↓v78_4, ↓v78_5, ↓v78_8, ↓v78_11, ↓v78_12, ↓v78_13, ↓v78_14, ↓v78_17, ↓v78_18, ↓v78_21, ↓v78_22, ↓v78_25, ↓v78_28, ↓v78_31, ↓v78_34, ↓v78_35, ↓v78_38, ↓v78_41, ↓v78_44, ↓v78_45, ↓v78_46, ↓v78_49, ↓v78_52, ↓v78_54, ↓v78_55, ↓v78_58, ↓v78_61, ↓v78_62, ↓v78_65, ↓v78_66, ↓v78_69, ↓v78_71, ↓v78_73, ↓v78_76, ↓v78_77, ↓v78_79, ↓v78_80, ↓v78_83, ↓v78_85, ↓v78_86, ↓v78_89, ↓v78_90, ↓v78_93, ↓v78_96, ↓v78_99, ↓v78_100, ↓v78_102, ↓v78_104, ↓v78_106, ↓v78_109, ↓v78_110, ↓v78_113, ↓v78_115, ↓v78_118, ↓v78_120, ↓v78_122, ↓v78_125, ↓v78_127, ↓v78_129, ↓v78_130, ↓v78_131, ↓v78_134, ↓v78_136, ↓v78_137, ↓v78_140, ↓v78_143, ↓v78_145, ↓v78_147, ↓v78_150, ↓v78_153, ↓v78_156, ↓v78_157, ↓v78_158, ↓v78_161, ↓v78_162, ↓v78_164, ↓v78_167, ↓v78_170, ↓qI_c, ↓qL_c, ↓qR_c, ↓pA_o, ↓qC_i, ↓qC_r, ↓oA_s, ↓gI_0, ↓gI_1, ↓gI_2, ↓gI_3, ↓gI_4, ↓gI_5, ↓gI_6, ↓gI_7, ↓gI_8, ↓gI_9, ↓gI_10, ↓gR_0, ↓gR_1, ↓gR_2, ↓gR_3, ↓gR_4, ↓gR_5, ↓gR_6, ↓gR_7, ↓gR_8, ↓gR_9, ↓gR_10, ↓sL_0, ↓sL_1, ↓sL_2, ↓sL_3, ↓sL_4, ↓sL_5, ↓sL_6, ↓sL_7, ↓sL_8, ↓sL_9, ↓sL_10, ↓rrf_si, ↓rrf_sg, ↓shO_si, ↓shO_sg, ↓shO_sr, ↓shA_si, ↓shA_sg, ↓shA_sr, ↓pAs_0, ↓pAs_i, ↓pAs_r, stk_n, stk_i, stk_l, stk_r, List.nil_append, List.cons_append, true_and, and_true, true_or, or_true, Nat.zero_add, dp_s, Nat.reduceAdd, le8_0, le8_1, le8_2, le8_3, le8_4, le8_5, le8_6, le8_7, le8_8, Classical.not_not, aT40, aT41, aT42, aT44, aT54, aT58, aT59, rT54, rT58, rT59, reduceIte, Nat.reduceEqDiff, qn_42, qn_44, true_implies, not_true_eq_false, not_false_eq_true, false_implies, sn, pk_sub hown, le_T, nT (show i < 2147483648 by omega), nT (show ws.length - own < 2147483648 by omega), ↓shO_of wi.1.1]
    refine ⟨fun c => ?_, fun c => ?_⟩
    · exact more (by rw [cd, decide_eq_true (by omega), Bool.true_or])
    · refine k82 wi ⟨_, rfl, ?_⟩
      have c0 : decide (ws.length - own ≤ i) = false := decide_eq_false (by omega)
      by_cases h8 : ws[i].2.2.1 < 128 ∧ nI (ws[i].2.2.1 / 16) = oI e0
      · rw [if_pos h8]
        refine vc_X 30 _ _ _ _ _ _ _ ?_
        simp only [↓v78_0, ↓v78_3, ↓v78_4, ↓v78_5, ↓v78_8, ↓v78_11, ↓v78_12, ↓v78_13, ↓v78_14, ↓v78_17, ↓v78_18, ↓v78_21, ↓v78_22, ↓v78_25, ↓v78_28, ↓v78_31, ↓v78_34, ↓v78_35, ↓v78_38, ↓v78_41, ↓v78_44, ↓v78_45, ↓v78_46, ↓v78_49, ↓v78_52, ↓v78_54, ↓v78_55, ↓v78_58, ↓v78_61, ↓v78_62, ↓v78_65, ↓v78_66, ↓v78_69, ↓v78_71, ↓v78_73, ↓v78_76, ↓v78_77, ↓v78_79, ↓v78_80, ↓v78_83, ↓v78_85, ↓v78_86, ↓v78_89, ↓v78_90, ↓v78_93, ↓v78_96, ↓v78_99, ↓v78_100, ↓v78_102, ↓v78_104, ↓v78_106, ↓v78_109, ↓v78_110, ↓v78_113, ↓v78_115, ↓v78_118, ↓v78_120, ↓v78_122, ↓v78_125, ↓v78_127, ↓v78_129, ↓v78_130, ↓v78_131, ↓v78_134, ↓v78_136, ↓v78_137, ↓v78_140, ↓v78_143, ↓v78_145, ↓v78_147, ↓v78_150, ↓v78_153, ↓v78_156, ↓v78_157, ↓v78_158, ↓v78_161, ↓v78_162, ↓v78_164, ↓v78_167, ↓v78_170, ↓qI_c, ↓qL_c, ↓qR_c, ↓pA_o, ↓qC_i, ↓qC_r, ↓oA_s, ↓gI_0, ↓gI_1, ↓gI_2, ↓gI_3, ↓gI_4, ↓gI_5, ↓gI_6, ↓gI_7, ↓gI_8, ↓gI_9, ↓gI_10, ↓gR_0, ↓gR_1, ↓gR_2, ↓gR_3, ↓gR_4, ↓gR_5, ↓gR_6, ↓gR_7, ↓gR_8, ↓gR_9, ↓gR_10, ↓sL_0, ↓sL_1, ↓sL_2, ↓sL_3, ↓sL_4, ↓sL_5, ↓sL_6, ↓sL_7, ↓sL_8, ↓sL_9, ↓sL_10, ↓rrf_si, ↓rrf_sg, ↓shO_si, ↓shO_sg, ↓shO_sr, ↓shA_si, ↓shA_sg, ↓shA_sr, ↓pAs_0, ↓pAs_i, ↓pAs_r, stk_n, stk_i, stk_l, stk_r, List.nil_append, List.cons_append, true_and, and_true, true_or, or_true, Nat.zero_add, dp_s, Nat.reduceAdd, le8_0, le8_1, le8_2, le8_3, le8_4, le8_5, le8_6, le8_7, le8_8, Classical.not_not, aT40, aT41, aT42, aT44, aT54, aT58, aT59, rT54, rT58, rT59, reduceIte, Nat.reduceEqDiff, qn_42, qn_44, true_implies, not_true_eq_false, not_false_eq_true, false_implies, i10]
        refine more ?_
        rw [cd, c0, Bool.false_or, decide_eq_true h8.1, Bool.true_and, beq_iff_eq]
        cases he : e0 with
        | none =>
          rw [he] at h8
          have h9 : nI (ws[i].2.2.1 / 16) = -1 := h8.2
          rw [nI_nm (by omega) (by decide)] at h9
          exact h9.elim
        | some e =>
          rw [he] at h8
          have h9 : nI (ws[i].2.2.1 / 16) = nI e := h8.2
          have := he0 e he
          rw [nI_eq (by omega) (by omega)] at h9
          rw [h9]
      · rw [if_neg h8]
        refine vc_X 30 _ _ _ _ _ _ _ ?_
        simp only [↓v78_0, ↓v78_3, ↓v78_4, ↓v78_5, ↓v78_8, ↓v78_11, ↓v78_12, ↓v78_13, ↓v78_14, ↓v78_17, ↓v78_18, ↓v78_21, ↓v78_22, ↓v78_25, ↓v78_28, ↓v78_31, ↓v78_34, ↓v78_35, ↓v78_38, ↓v78_41, ↓v78_44, ↓v78_45, ↓v78_46, ↓v78_49, ↓v78_52, ↓v78_54, ↓v78_55, ↓v78_58, ↓v78_61, ↓v78_62, ↓v78_65, ↓v78_66, ↓v78_69, ↓v78_71, ↓v78_73, ↓v78_76, ↓v78_77, ↓v78_79, ↓v78_80, ↓v78_83, ↓v78_85, ↓v78_86, ↓v78_89, ↓v78_90, ↓v78_93, ↓v78_96, ↓v78_99, ↓v78_100, ↓v78_102, ↓v78_104, ↓v78_106, ↓v78_109, ↓v78_110, ↓v78_113, ↓v78_115, ↓v78_118, ↓v78_120, ↓v78_122, ↓v78_125, ↓v78_127, ↓v78_129, ↓v78_130, ↓v78_131, ↓v78_134, ↓v78_136, ↓v78_137, ↓v78_140, ↓v78_143, ↓v78_145, ↓v78_147, ↓v78_150, ↓v78_153, ↓v78_156, ↓v78_157, ↓v78_158, ↓v78_161, ↓v78_162, ↓v78_164, ↓v78_167, ↓v78_170, ↓qI_c, ↓qL_c, ↓qR_c, ↓pA_o, ↓qC_i, ↓qC_r, ↓oA_s, ↓gI_0, ↓gI_1, ↓gI_2, ↓gI_3, ↓gI_4, ↓gI_5, ↓gI_6, ↓gI_7, ↓gI_8, ↓gI_9, ↓gI_10, ↓gR_0, ↓gR_1, ↓gR_2, ↓gR_3, ↓gR_4, ↓gR_5, ↓gR_6, ↓gR_7, ↓gR_8, ↓gR_9, ↓gR_10, ↓sL_0, ↓sL_1, ↓sL_2, ↓sL_3, ↓sL_4, ↓sL_5, ↓sL_6, ↓sL_7, ↓sL_8, ↓sL_9, ↓sL_10, ↓rrf_si, ↓rrf_sg, ↓shO_si, ↓shO_sg, ↓shO_sr, ↓shA_si, ↓shA_sg, ↓shA_sr, ↓pAs_0, ↓pAs_i, ↓pAs_r, stk_n, stk_i, stk_l, stk_r, List.nil_append, List.cons_append, true_and, and_true, true_or, or_true, Nat.zero_add, dp_s, Nat.reduceAdd, le8_0, le8_1, le8_2, le8_3, le8_4, le8_5, le8_6, le8_7, le8_8, Classical.not_not, aT40, aT41, aT42, aT44, aT54, aT58, aT59, rT54, rT58, rT59, reduceIte, Nat.reduceEqDiff, qn_42, qn_44, true_implies, not_true_eq_false, not_false_eq_true, false_implies, i00]
        refine next M _ ?_ Of.rf_
        rw [same ?_]
        · exact h
        · rw [cd, c0, Bool.false_or]
          by_cases h9 : ws[i].2.2.1 < 128
          · rw [decide_eq_true h9, Bool.true_and]
            refine beq_eq_false_iff_ne.mpr (fun c2 => h8 ⟨h9, ?_⟩)
            rw [c2]
            rfl
          · rw [decide_eq_false h9, Bool.false_and]
end
