/-! tieToObjects, makeTable -/
def addb (f : Nat → Bool) (x : WT) : WT := (x.1, x.2.1, x.2.2.1, x.2.2.2.1, x.2.2.2.2.1, fun s => x.2.2.2.2.2 s || f s)
def addS (lo : Nat) (f : Nat → Bool) (ws : List WT) : List WT := ws.mapIdx (fun k x => if lo ≤ k then addb f x else x)
theorem addS_len (lo : Nat) (f : Nat → Bool) (ws : List WT) : (addS lo f ws).length = ws.length := by simp [addS]
theorem addS_get (lo : Nat) (f : Nat → Bool) (ws : List WT) (k : Nat) : (addS lo f ws)[k]? = (ws[k]?).map (fun x => if lo ≤ k then addb f x else x) := by simp [addS]
theorem addS_0 (lo : Nat) (ws : List WT) : addS lo (fun _ => false) ws = ws := by
  apply List.ext_getElem?
  intro k
  rw [addS_get]
  cases ws[k]? with
  | none => rfl
  | some x =>
    show some (if lo ≤ k then addb (fun _ => false) x else x) = some x
    have : addb (fun _ => false) x = x := by
      unfold addb
      obtain ⟨a1, a2, a3, a4, a5, a6⟩ := x
      simp
    rw [this, ite_self]
theorem addS_s (lo t : Nat) (f : Nat → Bool) (ws : List WT) : setR lo ws.length t (addS lo f ws) = addS lo (fun s => f s || decide (s = t)) ws := by
  apply List.ext_getElem?
  intro k
  rw [setR_get, addS_get, addS_get]
  cases hk : ws[k]? with
  | none => rfl
  | some x =>
    have hlt := (List.getElem?_eq_some_iff.mp hk).1
    show some (if lo ≤ k ∧ k < ws.length then setb t (if lo ≤ k then addb f x else x) else (if lo ≤ k then addb f x else x)) = some (if lo ≤ k then addb (fun s => f s || decide (s = t)) x else x)
    by_cases hc : lo ≤ k
    · rw [if_pos ⟨hc, hlt⟩, if_pos hc, if_pos hc]
      unfold setb addb
      simp only [Bool.or_assoc]
    · rw [if_neg (fun q => hc q.1), if_neg hc, if_neg hc]
theorem addS_eq {lo : Nat} {f g : Nat → Bool} (ws : List WT) (e : ∀ s, f s = g s) : addS lo f ws = addS lo g ws := by rw [show f = g from funext e]
def tiC (ws : List WT) (mk : Nat → Bool) (k : Nat) : Bool := match ws[k]? with
  | some x => decide (x.2.2.1 < 128) && mk x.2.2.1
  | none => false
/-- the seats of those of the first n that are marked -/
def tiF (pm : Nat → Nat) (ws : List WT) (mk : Nat → Bool) : Nat → Nat → Bool
  | 0, _ => false
  | k + 1, s => tiF pm ws mk k s || (tiC ws mk k && decide (s = pm k))
def tie (dk : Nat → Nat) (pm : Nat → Nat) (own : Nat) (fr : Nat → Option Nat) (ws : List WT) : List WT := addS (ws.length - own) (tiF pm ws (mkK dk ws fr 48) (ws.length - own)) ws
theorem addS_rec {lo : Nat} {f : Nat → Bool} {ws : List WT} {k : Nat} {x : WT} (h : (addS lo f ws)[k]? = some x) : ∃ y, ws[k]? = some y ∧ x.2.2.2.1 = y.2.2.2.1 ∧ x.2.2.1 = y.2.2.1 ∧ x.2.2.2.2.1 = y.2.2.2.2.1 ∧ x.2.1 = y.2.1 ∧ x.1 = y.1 := by
  rw [addS_get] at h
  cases hk : ws[k]? with
  | none => rw [hk] at h; cases h
  | some y =>
    rw [hk] at h
    refine ⟨y, rfl, ?_⟩
    have h : some (if lo ≤ k then addb f y else y) = some x := h
    by_cases hc : lo ≤ k
    · rw [if_pos hc] at h
      cases h
      exact ⟨rfl, rfl, rfl, rfl, rfl⟩
    · rw [if_neg hc] at h
      cases h
      exact ⟨rfl, rfl, rfl, rfl, rfl⟩
section
variable {D : DT} {Q : QT} {C : List Nat × Nat} {L : (Nat → Nat) × Option Nat} {I : IT} {T : List Nat × List Nat} {E : (Nat → Option Nat) × (Nat → Bool)} {F : FT}
theorem k71 {d : Nat} {M : Mm} {k : mQ} {b own : Nat} {fr : Nat → Option Nat} (h : CP M b D Q C L I T E F) (hw : okW Q.2.2) (hf : EnC M (b + 255 + 4 + 2 * I.1 3) (b + 255 + 5 + 2 * I.1 3) fr none) (hown : own ≤ Q.2.2.length) (hk : ∀ M', CP M' b D (Q.1, Q.2.1, tie D.1 Q.1 own fr Q.2.2) C L I T E F → Of (fun y => PQ (b + 7) y ∨ y = b + 275) M M' → k none M') : XC (d + 6) 71 [.inr (some b), .inl (nI own)] M k := by
  have hx := h.2.2.2.2.2.1
  have i3 := hx.1.2.2.2.2.2.2.1 3 (by omega)
  have hql := h.2.2.1.1.2.2.1
  have lop2 : ∀ (m i : Nat) (M1 : Mm) (z : Option mL), i + m = Q.2.2.length - own → CP M1 b D (Q.1, Q.2.1, addS (Q.2.2.length - own) (tiF Q.1 Q.2.2 (mkK D.1 Q.2.2 fr 48) i) Q.2.2) C L I T E F → MkC M1 b (mkK D.1 Q.2.2 fr 48) → Of (fun y => PQ (b + 7) y ∨ y = b + 275) M M1 → X (d + 5) 71 45 [some (.inr (some b)), some (.inl (nI own)), some (.inl (nI (Q.2.2.length - own))), some (.inl (nI i)), z] [] M1 k := by
    intro m
    induction m with
    | zero =>
      intro i M1 z hi h1 hm o
      have e : i = Q.2.2.length - own := by omega
      subst e
      refine vc_X 30 _ _ _ _ _ _ _ ?_
      simp only [↓v71_0, ↓v71_1, ↓v71_4, ↓v71_5, ↓v71_6, ↓v71_7, ↓v71_9, ↓v71_12, ↓v71_13, ↓v71_14, ↓v71_17, ↓v71_20, ↓v71_21, ↓v71_24, ↓v71_27, ↓v71_30, ↓v71_33, ↓v71_34, ↓v71_37, ↓v71_40, ↓v71_41, ↓v71_42, ↓v71_43, ↓v71_44, ↓v71_45, ↓v71_46, ↓v71_47, ↓v71_50, ↓v71_51, ↓v71_54, ↓v71_55, ↓v71_58, ↓v71_60, ↓v71_62, ↓v71_65, ↓v71_67, ↓v71_70, ↓v71_73, ↓v71_74, ↓v71_77, ↓v71_79, ↓v71_82, ↓v71_83, ↓v71_86, ↓v71_87, ↓v71_90, ↓v71_91, ↓v71_93, ↓v71_96, ↓v71_99, ↓v71_102, ↓qI_c, ↓qL_c, ↓qR_c, ↓pA_o, ↓qC_i, ↓qC_r, ↓oA_s, ↓gI_0, ↓gI_1, ↓gI_2, ↓gI_3, ↓gI_4, ↓gI_5, ↓gI_6, ↓gI_7, ↓gI_8, ↓gI_9, ↓gI_10, ↓gR_0, ↓gR_1, ↓gR_2, ↓gR_3, ↓gR_4, ↓gR_5, ↓gR_6, ↓gR_7, ↓gR_8, ↓gR_9, ↓gR_10, ↓sL_0, ↓sL_1, ↓sL_2, ↓sL_3, ↓sL_4, ↓sL_5, ↓sL_6, ↓sL_7, ↓sL_8, ↓sL_9, ↓sL_10, ↓rrf_si, ↓rrf_sg, ↓shO_si, ↓shO_sg, ↓shO_sr, ↓shA_si, ↓shA_sg, ↓shA_sr, ↓pAs_0, ↓pAs_i, ↓pAs_r, stk_n, stk_i, stk_l, stk_r, List.nil_append, List.cons_append, true_and, and_true, true_or, or_true, Nat.zero_add, dp_s, Nat.reduceAdd, le8_0, le8_1, le8_2, le8_3, le8_4, le8_5, le8_6, le8_7, le8_8, Classical.not_not, aT40, aT41, aT42, aT44, aT54, aT58, aT59, rT54, rT58, rT59, reduceIte, Nat.reduceEqDiff, qn_42, qn_44, true_implies, not_true_eq_false, not_false_eq_true, false_implies, le_T, nT (show Q.2.2.length - own < 2147483648 by omega), Int.le_refl]
      exact hk M1 h1 o
    | succ m ih =>
      intro i M1 z hi h1 hm o
      have hq : QuC M1 (b + 7) Q.1 Q.2.1 (addS (Q.2.2.length - own) (tiF Q.1 Q.2.2 (mkK D.1 Q.2.2 fr 48) i) Q.2.2) := h1.2.2.1.1
      have hxi : Q.2.2[i]? = some Q.2.2[i] := List.getElem?_eq_getElem (by omega)
      have hxi' : (addS (Q.2.2.length - own) (tiF Q.1 Q.2.2 (mkK D.1 Q.2.2 fr 48) i) Q.2.2)[i]? = some Q.2.2[i] := by
        rw [addS_get, hxi]
        show some (if Q.2.2.length - own ≤ i then _ else _) = _
        rw [if_neg (by omega)]
      have hrow := hq.1.2.2.2.1 i (by omega)
      have next : ∀ M2 z, CP M2 b D (Q.1, Q.2.1, addS (Q.2.2.length - own) (tiF Q.1 Q.2.2 (mkK D.1 Q.2.2 fr 48) (i + 1)) Q.2.2) C L I T E F → MkC M2 b (mkK D.1 Q.2.2 fr 48) → Of (fun y => PQ (b + 7) y ∨ y = b + 275) M M2 → X (d + 5) 71 96 [some (.inr (some b)), some (.inl (nI own)), some (.inl (nI (Q.2.2.length - own))), some (.inl (nI i)), z] [] M2 k := by
        intro M2 z h2 m2 o2
        refine vc_X 30 _ _ _ _ _ _ _ ?_
        simp only [↓v71_0, ↓v71_1, ↓v71_4, ↓v71_5, ↓v71_6, ↓v71_7, ↓v71_9, ↓v71_12, ↓v71_13, ↓v71_14, ↓v71_17, ↓v71_20, ↓v71_21, ↓v71_24, ↓v71_27, ↓v71_30, ↓v71_33, ↓v71_34, ↓v71_37, ↓v71_40, ↓v71_41, ↓v71_42, ↓v71_43, ↓v71_44, ↓v71_45, ↓v71_46, ↓v71_47, ↓v71_50, ↓v71_51, ↓v71_54, ↓v71_55, ↓v71_58, ↓v71_60, ↓v71_62, ↓v71_65, ↓v71_67, ↓v71_70, ↓v71_73, ↓v71_74, ↓v71_77, ↓v71_79, ↓v71_82, ↓v71_83, ↓v71_86, ↓v71_87, ↓v71_90, ↓v71_91, ↓v71_93, ↓v71_96, ↓v71_99, ↓v71_102, ↓qI_c, ↓qL_c, ↓qR_c, ↓pA_o, ↓qC_i, ↓qC_r, ↓oA_s, ↓gI_0, ↓gI_1, ↓gI_2, ↓gI_3, ↓gI_4, ↓gI_5, ↓gI_6, ↓gI_7, ↓gI_8, ↓gI_9, ↓gI_10, ↓gR_0, ↓gR_1, ↓gR_2, ↓gR_3, ↓gR_4, ↓gR_5, ↓gR_6, ↓gR_7, ↓gR_8, ↓gR_9, ↓gR_10, ↓sL_0, ↓sL_1, ↓sL_2, ↓sL_3, ↓sL_4, ↓sL_5, ↓sL_6, ↓sL_7, ↓sL_8, ↓sL_9, ↓sL_10, ↓rrf_si, ↓rrf_sg, ↓shO_si, ↓shO_sg, ↓shO_sr, ↓shA_si, ↓shA_sg, ↓shA_sr, ↓pAs_0, ↓pAs_i, ↓pAs_r, stk_n, stk_i, stk_l, stk_r, List.nil_append, List.cons_append, true_and, and_true, true_or, or_true, Nat.zero_add, dp_s, Nat.reduceAdd, le8_0, le8_1, le8_2, le8_3, le8_4, le8_5, le8_6, le8_7, le8_8, Classical.not_not, aT40, aT41, aT42, aT44, aT54, aT58, aT59, rT54, rT58, rT59, reduceIte, Nat.reduceEqDiff, qn_42, qn_44, true_implies, not_true_eq_false, not_false_eq_true, false_implies, nI_1]
        exact ih (i + 1) M2 _ (by omega) h2 m2 o2
      have same : tiC Q.2.2 (mkK D.1 Q.2.2 fr 48) i = false → addS (Q.2.2.length - own) (tiF Q.1 Q.2.2 (mkK D.1 Q.2.2 fr 48) (i + 1)) Q.2.2 = addS (Q.2.2.length - own) (tiF Q.1 Q.2.2 (mkK D.1 Q.2.2 fr 48) i) Q.2.2 := fun hc => addS_eq _ (fun s => by
        show (_ || (tiC Q.2.2 (mkK D.1 Q.2.2 fr 48) i && _)) = _
        rw [hc, Bool.false_and, Bool.or_false])
      have tc : tiC Q.2.2 (mkK D.1 Q.2.2 fr 48) i = (decide (Q.2.2[i].2.2.1 < 128) && mkK D.1 Q.2.2 fr 48 Q.2.2[i].2.2.1) := by unfold tiC; rw [hxi]
      refine vc_X 30 _ _ _ _ _ _ _ ?_
      simp only [↓v71_0, ↓v71_1, ↓v71_4, ↓v71_5, ↓v71_6, ↓v71_7, ↓v71_9, ↓v71_12, ↓v71_13, ↓v71_14, ↓v71_17, ↓v71_20, ↓v71_21, ↓v71_24, ↓v71_27, ↓v71_30, ↓v71_33, ↓v71_34, ↓v71_37, ↓v71_40, ↓v71_41, ↓v71_42, ↓v71_43, ↓v71_44, ↓v71_45, ↓v71_46, ↓v71_47, ↓v71_50, ↓v71_51, ↓v71_54, ↓v71_55, ↓v71_58, ↓v71_60, ↓v71_62, ↓v71_65, ↓v71_67, ↓v71_70, ↓v71_73, ↓v71_74, ↓v71_77, ↓v71_79, ↓v71_82, ↓v71_83, ↓v71_86, ↓v71_87, ↓v71_90, ↓v71_91, ↓v71_93, ↓v71_96, ↓v71_99, ↓v71_102, ↓qI_c, ↓qL_c, ↓qR_c, ↓pA_o, ↓qC_i, ↓qC_r, ↓oA_s, ↓gI_0, ↓gI_1, ↓gI_2, ↓gI_3, ↓gI_4, ↓gI_5, ↓gI_6, ↓gI_7, ↓gI_8, ↓gI_9, ↓gI_10, ↓gR_0, ↓gR_1, ↓gR_2, ↓gR_3, ↓gR_4, ↓gR_5, ↓gR_6, ↓gR_7, ↓gR_8, ↓gR_9, ↓gR_10, ↓sL_0, ↓sL_1, ↓sL_2, ↓sL_3, ↓sL_4, ↓sL_5, ↓sL_6, ↓sL_7, ↓sL_8, ↓sL_9, ↓sL_10, ↓rrf_si, ↓rrf_sg, ↓shO_si, ↓shO_sg, ↓shO_sr, ↓shA_si, ↓shA_sg, ↓shA_sr, ↓pAs_0, ↓pAs_i, ↓pAs_r, stk_n, stk_i, stk_l, stk_r, List.nil_append, List.cons_append, true_and, and_true, true_or, or_true, Nat.zero_add, dp_s, Nat.reduceAdd, le8_0, le8_1, le8_2, le8_3, le8_4, le8_5, le8_6, le8_7, le8_8, Classical.not_not, aT40, aT41, aT42, aT44, aT54, aT58, aT59, rT54, rT58, rT59, reduceIte, Nat.reduceEqDiff, qn_42, qn_44, true_implies, not_true_eq_false, not_false_eq_true, false_implies, le_T, nT (show i < 2147483648 by omega), nT (show Q.2.2.length - own < 2147483648 by omega), ↓shO_of h1.1.1.1, ↓rrf_of h1.1.1.2.2.1, ↓shO_of hq.1.1]
      refine ⟨fun c => by omega, fun _ => ?_⟩
      refine k74 hq (fun j x ej hj => ⟨_, rfl, ?_⟩) (fun c => absurd (inB_n (by rw [addS_len]; omega) (by rw [addS_len]; omega)) c)
      have hjl := (List.getElem?_eq_some_iff.mp hj).1
      rw [addS_len] at hjl
      rw [nI_eq (by omega) (by omega)] at ej
      subst ej
      rw [hxi'] at hj
      cases hj
      obtain ⟨-, wx⟩ := hq.2.2.2.2.2 i _ hxi'
      have wb := wx.2.2.2.2.2.2.2
      refine vc_X 30 _ _ _ _ _ _ _ ?_
      simp only [↓v71_0, ↓v71_1, ↓v71_4, ↓v71_5, ↓v71_6, ↓v71_7, ↓v71_9, ↓v71_12, ↓v71_13, ↓v71_14, ↓v71_17, ↓v71_20, ↓v71_21, ↓v71_24, ↓v71_27, ↓v71_30, ↓v71_33, ↓v71_34, ↓v71_37, ↓v71_40, ↓v71_41, ↓v71_42, ↓v71_43, ↓v71_44, ↓v71_45, ↓v71_46, ↓v71_47, ↓v71_50, ↓v71_51, ↓v71_54, ↓v71_55, ↓v71_58, ↓v71_60, ↓v71_62, ↓v71_65, ↓v71_67, ↓v71_70, ↓v71_73, ↓v71_74, ↓v71_77, ↓v71_79, ↓v71_82, ↓v71_83, ↓v71_86, ↓v71_87, ↓v71_90, ↓v71_91, ↓v71_93, ↓v71_96, ↓v71_99, ↓v71_102, ↓qI_c, ↓qL_c, ↓qR_c, ↓pA_o, ↓qC_i, ↓qC_r, ↓oA_s, ↓gI_0, ↓gI_1, ↓gI_2, ↓gI_3, ↓gI_4, ↓gI_5, ↓gI_6, ↓gI_7, ↓gI_8, ↓gI_9, ↓gI_10, ↓gR_0, ↓gR_1, ↓gR_2, ↓gR_3, ↓gR_4, ↓gR_5, ↓gR_6, ↓gR_7, ↓gR_8, ↓gR_9, ↓gR_10, ↓sL_0, ↓sL_1, ↓sL_2, ↓sL_3, ↓sL_4, ↓sL_5, ↓sL_6, ↓sL_7, ↓sL_8, ↓sL_9, ↓sL_10, ↓rrf_si, ↓rrf_sg, ↓shO_si, ↓shO_sg, ↓shO_sr, ↓shA_si, ↓shA_sg, ↓shA_sr, ↓pAs_0, ↓pAs_i, ↓pAs_r, stk_n, stk_i, stk_l, stk_r, List.nil_append, List.cons_append, true_and, and_true, true_or, or_true, Nat.zero_add, dp_s, Nat.reduceAdd, le8_0, le8_1, le8_2, le8_3, le8_4, le8_5, le8_6, le8_7, le8_8, Classical.not_not, aT40, aT41, aT42, aT44, aT54, aT58, aT59, rT54, rT58, rT59, reduceIte, Nat.reduceEqDiff, qn_42, qn_44, true_implies, not_true_eq_false, not_false_eq_true, false_implies, sn, ↓shO_of wx.1.1]
      refine k75 wx ⟨_, rfl, ?_⟩
      by_cases h128 : Q.2.2[i].2.2.1 < 128
      · rw [if_pos h128]
        have hmk := hm _ h128
        refine vc_X 30 _ _ _ _ _ _ _ ?_
        simp only [↓v71_0, ↓v71_1, ↓v71_4, ↓v71_5, ↓v71_6, ↓v71_7, ↓v71_9, ↓v71_12, ↓v71_13, ↓v71_14, ↓v71_17, ↓v71_20, ↓v71_21, ↓v71_24, ↓v71_27, ↓v71_30, ↓v71_33, ↓v71_34, ↓v71_37, ↓v71_40, ↓v71_41, ↓v71_42, ↓v71_43, ↓v71_44, ↓v71_45, ↓v71_46, ↓v71_47, ↓v71_50, ↓v71_51, ↓v71_54, ↓v71_55, ↓v71_58, ↓v71_60, ↓v71_62, ↓v71_65, ↓v71_67, ↓v71_70, ↓v71_73, ↓v71_74, ↓v71_77, ↓v71_79, ↓v71_82, ↓v71_83, ↓v71_86, ↓v71_87, ↓v71_90, ↓v71_91, ↓v71_93, ↓v71_96, ↓v71_99, ↓v71_102, ↓qI_c, ↓qL_c, ↓qR_c, ↓pA_o, ↓qC_i, ↓qC_r, ↓oA_s, ↓gI_0, ↓gI_1, ↓gI_2, ↓gI_3, ↓gI_4, ↓gI_5, ↓gI_6, ↓gI_7, ↓gI_8, ↓gI_9, ↓gI_10, ↓gR_0, ↓gR_1, ↓gR_2, ↓gR_3, ↓gR_4, ↓gR_5, ↓gR_6, ↓gR_7, ↓gR_8, ↓gR_9, ↓gR_10, ↓sL_0, ↓sL_1, ↓sL_2, ↓sL_3, ↓sL_4, ↓sL_5, ↓sL_6, ↓sL_7, ↓sL_8, ↓sL_9, ↓sL_10, ↓rrf_si, ↓rrf_sg, ↓shO_si, ↓shO_sg, ↓shO_sr, ↓shA_si, ↓shA_sg, ↓shA_sr, ↓pAs_0, ↓pAs_i, ↓pAs_r, stk_n, stk_i, stk_l, stk_r, List.nil_append, List.cons_append, true_and, and_true, true_or, or_true, Nat.zero_add, dp_s, Nat.reduceAdd, le8_0, le8_1, le8_2, le8_3, le8_4, le8_5, le8_6, le8_7, le8_8, Classical.not_not, aT40, aT41, aT42, aT44, aT54, aT58, aT59, rT54, rT58, rT59, reduceIte, Nat.reduceEqDiff, qn_42, qn_44, true_implies, not_true_eq_false, not_false_eq_true, false_implies, i10, ↓shO_of h1.1.1.1, ↓rrf_of h1.1.2.1.2.2.2.2.1, ↓shO_of wx.1.1, wx.2.2.1, ↓shA_of h1.1.2.2.1.1, nC (show Q.2.2[i].2.2.1 < 2147483648 by omega), hmk, bI0, ↓rrf_of h1.1.1.2.2.1, ↓shO_of hq.1.1]
        refine ⟨inB_n h128 (by omega), fun c => ?_, fun c => ?_⟩
        · refine next M1 _ ?_ hm o
          rw [same (by rw [tc, c, Bool.and_false])]
          exact h1
        · refine k76 hq (by rw [addS_len]; exact hown) hrow.2 (fun M2 q2 o2 => ⟨rfl, ?_⟩)
          rw [addS_len, addS_s] at q2
          have hC2 := h1.upQ q2 o2 (fun k x a hk ha => by
            obtain ⟨y, hy, e1, -⟩ := addS_rec hk
            rw [e1] at ha
            exact RcC.ag (P := fun y => ¬ (PQ (b + 7) y ∨ y = b + 275)) (h.2.2.1.2 k y a hy ha) (o.ag (fun _ h => h)) (fun x hx => by unfold PQ; omega) (by rw [o.2.1]; exact Nat.le_refl _))
          refine next M2 _ ?_ (fun j hj => by rw [(o2.2.2.2 (b + 275) (by unfold PQ; omega) j).1]; exact hm j hj) (o.trans o2 (fun x hx => Or.inl hx))
          have e3 : addS (Q.2.2.length - own) (tiF Q.1 Q.2.2 (mkK D.1 Q.2.2 fr 48) (i + 1)) Q.2.2 = addS (Q.2.2.length - own) (fun s => tiF Q.1 Q.2.2 (mkK D.1 Q.2.2 fr 48) i s || decide (s = Q.1 i)) Q.2.2 := addS_eq _ (fun s => by
            show (_ || (tiC Q.2.2 (mkK D.1 Q.2.2 fr 48) i && _)) = _
            rw [tc, decide_eq_true h128, show mkK D.1 Q.2.2 fr 48 Q.2.2[i].2.2.1 = true by simpa using c, Bool.true_and, Bool.true_and])
          rw [e3]
          exact hC2
      · rw [if_neg h128]
        refine vc_X 30 _ _ _ _ _ _ _ ?_
        simp only [↓v71_0, ↓v71_1, ↓v71_4, ↓v71_5, ↓v71_6, ↓v71_7, ↓v71_9, ↓v71_12, ↓v71_13, ↓v71_14, ↓v71_17, ↓v71_20, ↓v71_21, ↓v71_24, ↓v71_27, ↓v71_30, ↓v71_33, ↓v71_34, ↓v71_37, ↓v71_40, ↓v71_41, ↓v71_42, ↓v71_43, ↓v71_44, ↓v71_45, ↓v71_46, ↓v71_47, ↓v71_50, ↓v71_51, ↓v71_54, ↓v71_55, ↓v71_58, ↓v71_60, ↓v71_62, ↓v71_65, ↓v71_67, ↓v71_70, ↓v71_73, ↓v71_74, ↓v71_77, ↓v71_79, ↓v71_82, ↓v71_83, ↓v71_86, ↓v71_87, ↓v71_90, ↓v71_91, ↓v71_93, ↓v71_96, ↓v71_99, ↓v71_102, ↓qI_c, ↓qL_c, ↓qR_c, ↓pA_o, ↓qC_i, ↓qC_r, ↓oA_s, ↓gI_0, ↓gI_1, ↓gI_2, ↓gI_3, ↓gI_4, ↓gI_5, ↓gI_6, ↓gI_7, ↓gI_8, ↓gI_9, ↓gI_10, ↓gR_0, ↓gR_1, ↓gR_2, ↓gR_3, ↓gR_4, ↓gR_5, ↓gR_6, ↓gR_7, ↓gR_8, ↓gR_9, ↓gR_10, ↓sL_0, ↓sL_1, ↓sL_2, ↓sL_3, ↓sL_4, ↓sL_5, ↓sL_6, ↓sL_7, ↓sL_8, ↓sL_9, ↓sL_10, ↓rrf_si, ↓rrf_sg, ↓shO_si, ↓shO_sg, ↓shO_sr, ↓shA_si, ↓shA_sg, ↓shA_sr, ↓pAs_0, ↓pAs_i, ↓pAs_r, stk_n, stk_i, stk_l, stk_r, List.nil_append, List.cons_append, true_and, and_true, true_or, or_true, Nat.zero_add, dp_s, Nat.reduceAdd, le8_0, le8_1, le8_2, le8_3, le8_4, le8_5, le8_6, le8_7, le8_8, Classical.not_not, aT40, aT41, aT42, aT44, aT54, aT58, aT59, rT54, rT58, rT59, reduceIte, Nat.reduceEqDiff, qn_42, qn_44, true_implies, not_true_eq_false, not_false_eq_true, false_implies, i00]
        refine next M1 _ ?_ hm o
        rw [same (by rw [tc, decide_eq_false h128, Bool.false_and])]
        exact h1
  have K : ∀ M', On [b + 275] M M' → CP M' b D Q C L I T E F := fun M' o => h.upZn o (by simp [PZ])
  have lop1 : ∀ (m i : Nat) (M1 : Mm) (z3 z4 : Option mL), i + m = 48 → On [b + 275] M M1 → MkC M1 b (mkK D.1 Q.2.2 fr i) → X (d + 5) 71 6 [some (.inr (some b)), some (.inl (nI own)), some (.inl (nI i)), z3, z4] [] M1 k := by
    intro m
    induction m with
    | zero =>
      intro i M1 z3 z4 hi o hm
      have h1 := K M1 o
      have e2 : i = 48 := by omega
      subst e2
      have hq := h1.2.2.1.1
      refine vc_X 30 _ _ _ _ _ _ _ ?_
      simp only [↓v71_0, ↓v71_1, ↓v71_4, ↓v71_5, ↓v71_6, ↓v71_7, ↓v71_9, ↓v71_12, ↓v71_13, ↓v71_14, ↓v71_17, ↓v71_20, ↓v71_21, ↓v71_24, ↓v71_27, ↓v71_30, ↓v71_33, ↓v71_34, ↓v71_37, ↓v71_40, ↓v71_41, ↓v71_42, ↓v71_43, ↓v71_44, ↓v71_45, ↓v71_46, ↓v71_47, ↓v71_50, ↓v71_51, ↓v71_54, ↓v71_55, ↓v71_58, ↓v71_60, ↓v71_62, ↓v71_65, ↓v71_67, ↓v71_70, ↓v71_73, ↓v71_74, ↓v71_77, ↓v71_79, ↓v71_82, ↓v71_83, ↓v71_86, ↓v71_87, ↓v71_90, ↓v71_91, ↓v71_93, ↓v71_96, ↓v71_99, ↓v71_102, ↓qI_c, ↓qL_c, ↓qR_c, ↓pA_o, ↓qC_i, ↓qC_r, ↓oA_s, ↓gI_0, ↓gI_1, ↓gI_2, ↓gI_3, ↓gI_4, ↓gI_5, ↓gI_6, ↓gI_7, ↓gI_8, ↓gI_9, ↓gI_10, ↓gR_0, ↓gR_1, ↓gR_2, ↓gR_3, ↓gR_4, ↓gR_5, ↓gR_6, ↓gR_7, ↓gR_8, ↓gR_9, ↓gR_10, ↓sL_0, ↓sL_1, ↓sL_2, ↓sL_3, ↓sL_4, ↓sL_5, ↓sL_6, ↓sL_7, ↓sL_8, ↓sL_9, ↓sL_10, ↓rrf_si, ↓rrf_sg, ↓shO_si, ↓shO_sg, ↓shO_sr, ↓shA_si, ↓shA_sg, ↓shA_sr, ↓pAs_0, ↓pAs_i, ↓pAs_r, stk_n, stk_i, stk_l, stk_r, List.nil_append, List.cons_append, true_and, and_true, true_or, or_true, Nat.zero_add, dp_s, Nat.reduceAdd, le8_0, le8_1, le8_2, le8_3, le8_4, le8_5, le8_6, le8_7, le8_8, Classical.not_not, aT40, aT41, aT42, aT44, aT54, aT58, aT59, rT54, rT58, rT59, reduceIte, Nat.reduceEqDiff, qn_42, qn_44, true_implies, not_true_eq_false, not_false_eq_true, false_implies, le_T, T_48, nT (show 48 < 2147483648 by omega), ↓shO_of h1.1.1.1, ↓rrf_of h1.1.1.2.2.1, ↓shO_of hq.1.1, hq.2.1, pk_sub hown]
      refine ⟨fun _ => ?_, fun c => absurd (by decide) c⟩
      refine lop2 (Q.2.2.length - own) 0 M1 _ (by omega) ?_ hm (o.of (fun x hx => Or.inr (by simpa using hx)))
      have e0 : addS (Q.2.2.length - own) (tiF Q.1 Q.2.2 (mkK D.1 Q.2.2 fr 48) 0) Q.2.2 = Q.2.2 := (addS_eq _ (fun s => rfl)).trans (addS_0 _ _)
      rw [e0]
      exact h1
    | succ m ih =>
      intro i M1 z3 z4 hi o hm
      have h1 := K M1 o
      have hx1 := h1.2.2.2.2.2.1
      have hf1 := hf.keep o (by simp; omega) (by simp; omega)
      refine vc_X 30 _ _ _ _ _ _ _ ?_
      simp only [↓v71_0, ↓v71_1, ↓v71_4, ↓v71_5, ↓v71_6, ↓v71_7, ↓v71_9, ↓v71_12, ↓v71_13, ↓v71_14, ↓v71_17, ↓v71_20, ↓v71_21, ↓v71_24, ↓v71_27, ↓v71_30, ↓v71_33, ↓v71_34, ↓v71_37, ↓v71_40, ↓v71_41, ↓v71_42, ↓v71_43, ↓v71_44, ↓v71_45, ↓v71_46, ↓v71_47, ↓v71_50, ↓v71_51, ↓v71_54, ↓v71_55, ↓v71_58, ↓v71_60, ↓v71_62, ↓v71_65, ↓v71_67, ↓v71_70, ↓v71_73, ↓v71_74, ↓v71_77, ↓v71_79, ↓v71_82, ↓v71_83, ↓v71_86, ↓v71_87, ↓v71_90, ↓v71_91, ↓v71_93, ↓v71_96, ↓v71_99, ↓v71_102, ↓qI_c, ↓qL_c, ↓qR_c, ↓pA_o, ↓qC_i, ↓qC_r, ↓oA_s, ↓gI_0, ↓gI_1, ↓gI_2, ↓gI_3, ↓gI_4, ↓gI_5, ↓gI_6, ↓gI_7, ↓gI_8, ↓gI_9, ↓gI_10, ↓gR_0, ↓gR_1, ↓gR_2, ↓gR_3, ↓gR_4, ↓gR_5, ↓gR_6, ↓gR_7, ↓gR_8, ↓gR_9, ↓gR_10, ↓sL_0, ↓sL_1, ↓sL_2, ↓sL_3, ↓sL_4, ↓sL_5, ↓sL_6, ↓sL_7, ↓sL_8, ↓sL_9, ↓sL_10, ↓rrf_si, ↓rrf_sg, ↓shO_si, ↓shO_sg, ↓shO_sr, ↓shA_si, ↓shA_sg, ↓shA_sr, ↓pAs_0, ↓pAs_i, ↓pAs_r, stk_n, stk_i, stk_l, stk_r, List.nil_append, List.cons_append, true_and, and_true, true_or, or_true, Nat.zero_add, dp_s, Nat.reduceAdd, le8_0, le8_1, le8_2, le8_3, le8_4, le8_5, le8_6, le8_7, le8_8, Classical.not_not, aT40, aT41, aT42, aT44, aT54, aT58, aT59, rT54, rT58, rT59, reduceIte, Nat.reduceEqDiff, qn_42, qn_44, true_implies, not_true_eq_false, not_false_eq_true, false_implies, le_T, T_48, nT (show i < 2147483648 by omega), ↓shO_of h1.1.1.1, ↓rrf_of h1.1.1.2.2.2.2.2.2, ↓shO_of hx1.1.1, ↓rrf_of hx1.1.2.2.2.1, ↓shO_of hf1.1.1]
      refine ⟨fun c => by omega, fun _ => k61k hf1 ⟨_, rfl, ?_⟩⟩
      rw [keyOf_n (by omega)]
      refine vc_X 30 _ _ _ _ _ _ _ ?_
      simp only [↓v71_0, ↓v71_1, ↓v71_4, ↓v71_5, ↓v71_6, ↓v71_7, ↓v71_9, ↓v71_12, ↓v71_13, ↓v71_14, ↓v71_17, ↓v71_20, ↓v71_21, ↓v71_24, ↓v71_27, ↓v71_30, ↓v71_33, ↓v71_34, ↓v71_37, ↓v71_40, ↓v71_41, ↓v71_42, ↓v71_43, ↓v71_44, ↓v71_45, ↓v71_46, ↓v71_47, ↓v71_50, ↓v71_51, ↓v71_54, ↓v71_55, ↓v71_58, ↓v71_60, ↓v71_62, ↓v71_65, ↓v71_67, ↓v71_70, ↓v71_73, ↓v71_74, ↓v71_77, ↓v71_79, ↓v71_82, ↓v71_83, ↓v71_86, ↓v71_87, ↓v71_90, ↓v71_91, ↓v71_93, ↓v71_96, ↓v71_99, ↓v71_102, ↓qI_c, ↓qL_c, ↓qR_c, ↓pA_o, ↓qC_i, ↓qC_r, ↓oA_s, ↓gI_0, ↓gI_1, ↓gI_2, ↓gI_3, ↓gI_4, ↓gI_5, ↓gI_6, ↓gI_7, ↓gI_8, ↓gI_9, ↓gI_10, ↓gR_0, ↓gR_1, ↓gR_2, ↓gR_3, ↓gR_4, ↓gR_5, ↓gR_6, ↓gR_7, ↓gR_8, ↓gR_9, ↓gR_10, ↓sL_0, ↓sL_1, ↓sL_2, ↓sL_3, ↓sL_4, ↓sL_5, ↓sL_6, ↓sL_7, ↓sL_8, ↓sL_9, ↓sL_10, ↓rrf_si, ↓rrf_sg, ↓shO_si, ↓shO_sg, ↓shO_sr, ↓shA_si, ↓shA_sg, ↓shA_sr, ↓pAs_0, ↓pAs_i, ↓pAs_r, stk_n, stk_i, stk_l, stk_r, List.nil_append, List.cons_append, true_and, and_true, true_or, or_true, Nat.zero_add, dp_s, Nat.reduceAdd, le8_0, le8_1, le8_2, le8_3, le8_4, le8_5, le8_6, le8_7, le8_8, Classical.not_not, aT40, aT41, aT42, aT44, aT54, aT58, aT59, rT54, rT58, rT59, reduceIte, Nat.reduceEqDiff, qn_42, qn_44, true_implies, not_true_eq_false, not_false_eq_true, false_implies, ↓shO_of h1.1.1.1]
      refine k73s (o := fr i) h1 hw hm (fun p hp => hf.2.2.1 i p (by omega) hp) (fun M2 m2 o2 => ⟨rfl, ?_⟩)
      refine vc_X 30 _ _ _ _ _ _ _ ?_
      simp only [↓v71_0, ↓v71_1, ↓v71_4, ↓v71_5, ↓v71_6, ↓v71_7, ↓v71_9, ↓v71_12, ↓v71_13, ↓v71_14, ↓v71_17, ↓v71_20, ↓v71_21, ↓v71_24, ↓v71_27, ↓v71_30, ↓v71_33, ↓v71_34, ↓v71_37, ↓v71_40, ↓v71_41, ↓v71_42, ↓v71_43, ↓v71_44, ↓v71_45, ↓v71_46, ↓v71_47, ↓v71_50, ↓v71_51, ↓v71_54, ↓v71_55, ↓v71_58, ↓v71_60, ↓v71_62, ↓v71_65, ↓v71_67, ↓v71_70, ↓v71_73, ↓v71_74, ↓v71_77, ↓v71_79, ↓v71_82, ↓v71_83, ↓v71_86, ↓v71_87, ↓v71_90, ↓v71_91, ↓v71_93, ↓v71_96, ↓v71_99, ↓v71_102, ↓qI_c, ↓qL_c, ↓qR_c, ↓pA_o, ↓qC_i, ↓qC_r, ↓oA_s, ↓gI_0, ↓gI_1, ↓gI_2, ↓gI_3, ↓gI_4, ↓gI_5, ↓gI_6, ↓gI_7, ↓gI_8, ↓gI_9, ↓gI_10, ↓gR_0, ↓gR_1, ↓gR_2, ↓gR_3, ↓gR_4, ↓gR_5, ↓gR_6, ↓gR_7, ↓gR_8, ↓gR_9, ↓gR_10, ↓sL_0, ↓sL_1, ↓sL_2, ↓sL_3, ↓sL_4, ↓sL_5, ↓sL_6, ↓sL_7, ↓sL_8, ↓sL_9, ↓sL_10, ↓rrf_si, ↓rrf_sg, ↓shO_si, ↓shO_sg, ↓shO_sr, ↓shA_si, ↓shA_sg, ↓shA_sr, ↓pAs_0, ↓pAs_i, ↓pAs_r, stk_n, stk_i, stk_l, stk_r, List.nil_append, List.cons_append, true_and, and_true, true_or, or_true, Nat.zero_add, dp_s, Nat.reduceAdd, le8_0, le8_1, le8_2, le8_3, le8_4, le8_5, le8_6, le8_7, le8_8, Classical.not_not, aT40, aT41, aT42, aT44, aT54, aT58, aT59, rT54, rT58, rT59, reduceIte, Nat.reduceEqDiff, qn_42, qn_44, true_implies, not_true_eq_false, not_false_eq_true, false_implies, nI_1]
      exact ih (i + 1) M2 _ _ (by omega) (o.trans o2 (fun _ x => x)) m2
  refine xc ?_
  show X (d + 5) 71 0 [some (.inr (some b)), some (.inl (nI own)), none, none, none] [] M k
  refine vc_X 30 _ _ _ _ _ _ _ ?_
  simp only [↓v71_0, ↓v71_1, ↓v71_4, ↓v71_5, ↓v71_6, ↓v71_7, ↓v71_9, ↓v71_12, ↓v71_13, ↓v71_14, ↓v71_17, ↓v71_20, ↓v71_21, ↓v71_24, ↓v71_27, ↓v71_30, ↓v71_33, ↓v71_34, ↓v71_37, ↓v71_40, ↓v71_41, ↓v71_42, ↓v71_43, ↓v71_44, ↓v71_45, ↓v71_46, ↓v71_47, ↓v71_50, ↓v71_51, ↓v71_54, ↓v71_55, ↓v71_58, ↓v71_60, ↓v71_62, ↓v71_65, ↓v71_67, ↓v71_70, ↓v71_73, ↓v71_74, ↓v71_77, ↓v71_79, ↓v71_82, ↓v71_83, ↓v71_86, ↓v71_87, ↓v71_90, ↓v71_91, ↓v71_93, ↓v71_96, ↓v71_99, ↓v71_102, ↓qI_c, ↓qL_c, ↓qR_c, ↓pA_o, ↓qC_i, ↓qC_r, ↓oA_s, ↓gI_0, ↓gI_1, ↓gI_2, ↓gI_3, ↓gI_4, ↓gI_5, ↓gI_6, ↓gI_7, ↓gI_8, ↓gI_9, ↓gI_10, ↓gR_0, ↓gR_1, ↓gR_2, ↓gR_3, ↓gR_4, ↓gR_5, ↓gR_6, ↓gR_7, ↓gR_8, ↓gR_9, ↓gR_10, ↓sL_0, ↓sL_1, ↓sL_2, ↓sL_3, ↓sL_4, ↓sL_5, ↓sL_6, ↓sL_7, ↓sL_8, ↓sL_9, ↓sL_10, ↓rrf_si, ↓rrf_sg, ↓shO_si, ↓shO_sg, ↓shO_sr, ↓shA_si, ↓shA_sg, ↓shA_sr, ↓pAs_0, ↓pAs_i, ↓pAs_r, stk_n, stk_i, stk_l, stk_r, List.nil_append, List.cons_append, true_and, and_true, true_or, or_true, Nat.zero_add, dp_s, Nat.reduceAdd, le8_0, le8_1, le8_2, le8_3, le8_4, le8_5, le8_6, le8_7, le8_8, Classical.not_not, aT40, aT41, aT42, aT44, aT54, aT58, aT59, rT54, rT58, rT59, reduceIte, Nat.reduceEqDiff, qn_42, qn_44, true_implies, not_true_eq_false, not_false_eq_true, false_implies, ↓shO_of h.1.1.1]
  refine k72 h (fun M1 m1 o1 => ⟨rfl, ?_⟩)
  refine vc_X 30 _ _ _ _ _ _ _ ?_
  simp only [↓v71_0, ↓v71_1, ↓v71_4, ↓v71_5, ↓v71_6, ↓v71_7, ↓v71_9, ↓v71_12, ↓v71_13, ↓v71_14, ↓v71_17, ↓v71_20, ↓v71_21, ↓v71_24, ↓v71_27, ↓v71_30, ↓v71_33, ↓v71_34, ↓v71_37, ↓v71_40, ↓v71_41, ↓v71_42, ↓v71_43, ↓v71_44, ↓v71_45, ↓v71_46, ↓v71_47, ↓v71_50, ↓v71_51, ↓v71_54, ↓v71_55, ↓v71_58, ↓v71_60, ↓v71_62, ↓v71_65, ↓v71_67, ↓v71_70, ↓v71_73, ↓v71_74, ↓v71_77, ↓v71_79, ↓v71_82, ↓v71_83, ↓v71_86, ↓v71_87, ↓v71_90, ↓v71_91, ↓v71_93, ↓v71_96, ↓v71_99, ↓v71_102, ↓qI_c, ↓qL_c, ↓qR_c, ↓pA_o, ↓qC_i, ↓qC_r, ↓oA_s, ↓gI_0, ↓gI_1, ↓gI_2, ↓gI_3, ↓gI_4, ↓gI_5, ↓gI_6, ↓gI_7, ↓gI_8, ↓gI_9, ↓gI_10, ↓gR_0, ↓gR_1, ↓gR_2, ↓gR_3, ↓gR_4, ↓gR_5, ↓gR_6, ↓gR_7, ↓gR_8, ↓gR_9, ↓gR_10, ↓sL_0, ↓sL_1, ↓sL_2, ↓sL_3, ↓sL_4, ↓sL_5, ↓sL_6, ↓sL_7, ↓sL_8, ↓sL_9, ↓sL_10, ↓rrf_si, ↓rrf_sg, ↓shO_si, ↓shO_sg, ↓shO_sr, ↓shA_si, ↓shA_sg, ↓shA_sr, ↓pAs_0, ↓pAs_i, ↓pAs_r, stk_n, stk_i, stk_l, stk_r, List.nil_append, List.cons_append, true_and, and_true, true_or, or_true, Nat.zero_add, dp_s, Nat.reduceAdd, le8_0, le8_1, le8_2, le8_3, le8_4, le8_5, le8_6, le8_7, le8_8, Classical.not_not, aT40, aT41, aT42, aT44, aT54, aT58, aT59, rT54, rT58, rT59, reduceIte, Nat.reduceEqDiff, qn_42, qn_44, true_implies, not_true_eq_false, not_false_eq_true, false_implies]
  exact lop1 48 0 M1 _ _ (by omega) o1 m1
theorem addS_okW {lo : Nat} {f : Nat → Bool} {ws : List WT} (h : okW ws) : okW (addS lo f ws) := by
  intro k x hk ht i hi
  obtain ⟨y, hy, e1, e2, e3, e4, e5⟩ := addS_rec hk
  have := h k y hy (by omega) i hi
  unfold byN at this ⊢
  rw [e3]
  exact this
theorem wrs_okW {pm : Nat → Nat} {made n p : Nat} {ch : List Nat} {em : Option Nat} {m : Nat} {ws : List WT} (h : okW ws) (hc : ∀ v ∈ ch, v < 256) : okW (ws ++ wrs pm made n p ch em m) := by
  intro k x hk ht i hi
  by_cases hlt : k < ws.length
  · rw [List.getElem?_append_left hlt] at hk
    exact h k x hk ht i hi
  · rw [List.getElem?_append_right (by omega)] at hk
    unfold wrs at hk
    rw [List.getElem?_map] at hk
    cases hr : (List.range m)[k - ws.length]? with
    | none => rw [hr] at hk; cases hk
    | some bb =>
      rw [hr] at hk
      cases hk
      have hv : (ch[16 * bb + i]?).getD 0 < 256 := by
        cases hcc : ch[16 * bb + i]? with
        | none => show 0 < 256; omega
        | some v => exact hc v (List.mem_of_getElem? hcc)
      have e : byN (wrB pm made n p ch em bb) i = (ch[16 * bb + i]?).getD 0 := by
        show (nI ((ch[16 * bb + i]?).getD 0)).toInt.toNat = _
        rw [nT (by omega)]
        simp
      rw [e]
      exact ⟨rfl, hv⟩
theorem tbL_len (sp : Nat → Option Nat) : (tbL sp).length = 1 + 3 * nE sp 48 := by
  unfold tbL
  rw [List.length_cons, spl_len]
  omega
theorem spE_lt {n : Nat} {o : Option Nat} (hn : n < 256) (ho : okO o) : ∀ v ∈ spE n o, v < 256 := by
  intro v hv
  cases o with
  | none => cases hv
  | some p =>
    have hp := ho p rfl
    have hv : v ∈ [n, if p = 255 then 255 else p / 16, if p = 255 then 0 else p % 16] := hv
    simp only [List.mem_cons, List.not_mem_nil, or_false] at hv
    rcases hv with h | h | h
    · omega
    · rw [h]; split <;> omega
    · rw [h]; split <;> omega
theorem spl_lt {sp : Nat → Option Nat} (hok : spOK sp) : ∀ n, n ≤ 48 → ∀ v ∈ spl sp n, v < 256
  | 0, _, v, hv => by cases hv
  | n + 1, hn, v, hv => by
    have hv : v ∈ spl sp n ++ spE n (sp n) := hv
    rcases List.mem_append.mp hv with h | h
    · exact spl_lt hok n (by omega) v h
    · exact spE_lt (by omega) (fun p hp => hok n p (by omega) hp) v h
theorem tbL_lt {sp : Nat → Option Nat} (hok : spOK sp) : ∀ v ∈ tbL sp, v < 256 := by
  intro v hv
  unfold tbL at hv
  rcases List.mem_cons.mp hv with h | h
  · have := nE_le sp 48
    omega
  · exact spl_lt hok 48 (Nat.le_refl _) v h
/-- makeTable changes these -/
def PT (b : Nat) : Nat → Prop := fun y => PM b y ∨ PX (b + 255) y ∨ y = b + 271 ∨ y = b + 272 ∨ y = b + 275
/-- how many blocks the table has, its writes, the queue with it -/
def tbN (mg : Bool) (ch : Nat → Option Nat) (tb : TbT) : Nat := ((tbL (frS mg ch tb)).length + 23) / 16
def tbW (mg : Bool) (dk : Nat → Nat) (Q : QT) (I : IT) (p st : Nat) (em : Option Nat) : List WT := tie dk Q.1 (tbN mg I.2.1 I.2.2) (frS mg I.2.1 I.2.2) (Q.2.2 ++ wrs Q.1 Q.2.1 Q.2.2.length p (chL 2 0 (tbL (frS mg I.2.1 I.2.2)) st) (nuA Q.2.2 em) (tbN mg I.2.1 I.2.2))
theorem k68 {d : Nat} {M : Mm} {k : mQ} {b e : Nat} {mg : Bool} (h : CP M b D Q C L I T E F) (hw : okW Q.2.2) (hst : F.2.2.2.1 + 1 < 1000000) (he : tkE L.1 L.2 (tbN mg I.2.1 I.2.2) 1 = some e) (he2 : e < 8 ∧ L.1 e + tbN mg I.2.1 I.2.2 ≤ 16) (hn : Q.2.2.length + tbN mg I.2.1 I.2.2 ≤ 120) (hmd : Q.2.1 + tbN mg I.2.1 I.2.2 < 1000000)
    (hk : ∀ M', CP M' b D (Q.1, Q.2.1 + tbN mg I.2.1 I.2.2, tbW mg D.1 Q I (16 * e + L.1 e) F.2.2.2.1 (E.1 e)) C (upn L.1 e (L.1 e + tbN mg I.2.1 I.2.2), some e) (imA I.1 (adN mg I.2.2), (fun _ => none), (16 * e + L.1 e, frS mg I.2.1 I.2.2) :: I.2.2.take (adN mg I.2.2)) T E (F.1, F.2.1, F.2.2.1, F.2.2.2.1 + 1, F.2.2.2.2) → Of (PT b) M M' → k (some (.inl (nI (tbN mg I.2.1 I.2.2)))) M') : XC (d + 7) 68 [.inr (some b), .inl (bI mg)] M k := by
  have hx := h.2.2.2.2.2.1
  have i3 := hx.1.2.2.2.2.2.2.1 3 (by omega)
  have hok := frS_ok hx mg
  refine xc ?_
  show X (d + 6) 68 0 [some (.inr (some b)), some (.inl (bI mg)), none, none] [] M k
  refine vc_X 30 _ _ _ _ _ _ _ ?_
  simp only [↓v68_0, ↓v68_1, ↓v68_4, ↓v68_5, ↓v68_8, ↓v68_9, ↓v68_12, ↓v68_15, ↓v68_16, ↓v68_19, ↓v68_22, ↓v68_23, ↓v68_24, ↓v68_25, ↓v68_26, ↓v68_29, ↓v68_30, ↓v68_31, ↓v68_34, ↓v68_37, ↓v68_40, ↓v68_41, ↓v68_42, ↓v68_43, ↓v68_46, ↓v68_47, ↓v68_50, ↓v68_51, ↓v68_52, ↓v68_55, ↓v68_56, ↓qI_c, ↓qL_c, ↓qR_c, ↓pA_o, ↓qC_i, ↓qC_r, ↓oA_s, ↓gI_0, ↓gI_1, ↓gI_2, ↓gI_3, ↓gI_4, ↓gI_5, ↓gI_6, ↓gI_7, ↓gI_8, ↓gI_9, ↓gI_10, ↓gR_0, ↓gR_1, ↓gR_2, ↓gR_3, ↓gR_4, ↓gR_5, ↓gR_6, ↓gR_7, ↓gR_8, ↓gR_9, ↓gR_10, ↓sL_0, ↓sL_1, ↓sL_2, ↓sL_3, ↓sL_4, ↓sL_5, ↓sL_6, ↓sL_7, ↓sL_8, ↓sL_9, ↓sL_10, ↓rrf_si, ↓rrf_sg, ↓shO_si, ↓shO_sg, ↓shO_sr, ↓shA_si, ↓shA_sg, ↓shA_sr, ↓pAs_0, ↓pAs_i, ↓pAs_r, stk_n, stk_i, stk_l, stk_r, List.nil_append, List.cons_append, true_and, and_true, true_or, or_true, Nat.zero_add, dp_s, Nat.reduceAdd, le8_0, le8_1, le8_2, le8_3, le8_4, le8_5, le8_6, le8_7, le8_8, Classical.not_not, aT40, aT41, aT42, aT44, aT54, aT58, aT59, rT54, rT58, rT59, reduceIte, Nat.reduceEqDiff, qn_42, qn_44, true_implies, not_true_eq_false, not_false_eq_true, false_implies, ↓shO_of h.1.1.1, ↓rrf_of h.1.1.2.2.2.2.2.2, ↓shO_of hx.1.1]
  refine k69 hx (fun M1 x1 f1 o1 => ⟨rfl, ?_⟩)
  have h1 : CP M1 b D Q C L I T E F := h.upI x1 (o1.of (fun x hx => by simp at hx; unfold PX; omega))
  refine vc_X 30 _ _ _ _ _ _ _ ?_
  simp only [↓v68_0, ↓v68_1, ↓v68_4, ↓v68_5, ↓v68_8, ↓v68_9, ↓v68_12, ↓v68_15, ↓v68_16, ↓v68_19, ↓v68_22, ↓v68_23, ↓v68_24, ↓v68_25, ↓v68_26, ↓v68_29, ↓v68_30, ↓v68_31, ↓v68_34, ↓v68_37, ↓v68_40, ↓v68_41, ↓v68_42, ↓v68_43, ↓v68_46, ↓v68_47, ↓v68_50, ↓v68_51, ↓v68_52, ↓v68_55, ↓v68_56, ↓qI_c, ↓qL_c, ↓qR_c, ↓pA_o, ↓qC_i, ↓qC_r, ↓oA_s, ↓gI_0, ↓gI_1, ↓gI_2, ↓gI_3, ↓gI_4, ↓gI_5, ↓gI_6, ↓gI_7, ↓gI_8, ↓gI_9, ↓gI_10, ↓gR_0, ↓gR_1, ↓gR_2, ↓gR_3, ↓gR_4, ↓gR_5, ↓gR_6, ↓gR_7, ↓gR_8, ↓gR_9, ↓gR_10, ↓sL_0, ↓sL_1, ↓sL_2, ↓sL_3, ↓sL_4, ↓sL_5, ↓sL_6, ↓sL_7, ↓sL_8, ↓sL_9, ↓sL_10, ↓rrf_si, ↓rrf_sg, ↓shO_si, ↓shO_sg, ↓shO_sr, ↓shA_si, ↓shA_sg, ↓shA_sr, ↓pAs_0, ↓pAs_i, ↓pAs_r, stk_n, stk_i, stk_l, stk_r, List.nil_append, List.cons_append, true_and, and_true, true_or, or_true, Nat.zero_add, dp_s, Nat.reduceAdd, le8_0, le8_1, le8_2, le8_3, le8_4, le8_5, le8_6, le8_7, le8_8, Classical.not_not, aT40, aT41, aT42, aT44, aT54, aT58, aT59, rT54, rT58, rT59, reduceIte, Nat.reduceEqDiff, qn_42, qn_44, true_implies, not_true_eq_false, not_false_eq_true, false_implies, ↓shO_of h1.1.1.1, ↓rrf_of h1.1.1.2.2.2.2.2.2, ↓shO_of x1.1.1, ↓rrf_of x1.1.2.2.2.1, ↓rrf_of h1.1.2.1.2.2.1, ↓shO_of f1.1.1]
  refine k70 (by omega) (by omega) (by omega) (by omega) (by omega) f1 h1.1.2.2.2.2.1 (fun M2 b2 o2 => ⟨rfl, ?_⟩)
  have h2 : CP M2 b D Q C L I T E F := h1.upZn o2 (by simp [PZ])
  have f2 := f1.keep o2 (by simp; omega) (by simp; omega)
  refine vc_X 30 _ _ _ _ _ _ _ ?_
  simp only [↓v68_0, ↓v68_1, ↓v68_4, ↓v68_5, ↓v68_8, ↓v68_9, ↓v68_12, ↓v68_15, ↓v68_16, ↓v68_19, ↓v68_22, ↓v68_23, ↓v68_24, ↓v68_25, ↓v68_26, ↓v68_29, ↓v68_30, ↓v68_31, ↓v68_34, ↓v68_37, ↓v68_40, ↓v68_41, ↓v68_42, ↓v68_43, ↓v68_46, ↓v68_47, ↓v68_50, ↓v68_51, ↓v68_52, ↓v68_55, ↓v68_56, ↓qI_c, ↓qL_c, ↓qR_c, ↓pA_o, ↓qC_i, ↓qC_r, ↓oA_s, ↓gI_0, ↓gI_1, ↓gI_2, ↓gI_3, ↓gI_4, ↓gI_5, ↓gI_6, ↓gI_7, ↓gI_8, ↓gI_9, ↓gI_10, ↓gR_0, ↓gR_1, ↓gR_2, ↓gR_3, ↓gR_4, ↓gR_5, ↓gR_6, ↓gR_7, ↓gR_8, ↓gR_9, ↓gR_10, ↓sL_0, ↓sL_1, ↓sL_2, ↓sL_3, ↓sL_4, ↓sL_5, ↓sL_6, ↓sL_7, ↓sL_8, ↓sL_9, ↓sL_10, ↓rrf_si, ↓rrf_sg, ↓shO_si, ↓shO_sg, ↓shO_sr, ↓shA_si, ↓shA_sg, ↓shA_sr, ↓pAs_0, ↓pAs_i, ↓pAs_r, stk_n, stk_i, stk_l, stk_r, List.nil_append, List.cons_append, true_and, and_true, true_or, or_true, Nat.zero_add, dp_s, Nat.reduceAdd, le8_0, le8_1, le8_2, le8_3, le8_4, le8_5, le8_6, le8_7, le8_8, Classical.not_not, aT40, aT41, aT42, aT44, aT54, aT58, aT59, rT54, rT58, rT59, reduceIte, Nat.reduceEqDiff, qn_42, qn_44, true_implies, not_true_eq_false, not_false_eq_true, false_implies, ↓shO_of h2.1.1.1]
  unfold tbW at hk
  unfold tbN at hk he he2 hn hmd
  have hct := tbL_lt hok
  have hlen := tbL_len (frS mg I.2.1 I.2.2)
  have hnE := nE_le (frS mg I.2.1 I.2.2) 48
  generalize hct2 : tbL (frS mg I.2.1 I.2.2) = ct at hk he he2 hn hmd hct hlen b2
  refine k52 (kind := 2) (key := 0) (l := 1) h2 b2 hct (by omega) (by omega) hst (by omega) he he2 hn hmd (fun M3 h3 o3 => ⟨_, rfl, ?_⟩)
  have g3 : Ag (fun y => ¬ PM b y) M2 M3 := o3.ag (fun _ h => h)
  have b3 : BC M3 (b + 271) (b + 272) 255 (ct.map nI) := b2.ag g3 (by unfold PM PQ; omega) (by unfold PM PQ; omega)
  have f3 := f2.ag g3 (by unfold PM PQ; omega) (by unfold PM PQ; omega)
  have c3 : M3.it (b + 271) 1 = nI ct.length := by rw [b3.2.1, List.length_map]
  refine vc_X 30 _ _ _ _ _ _ _ ?_
  simp only [↓v68_0, ↓v68_1, ↓v68_4, ↓v68_5, ↓v68_8, ↓v68_9, ↓v68_12, ↓v68_15, ↓v68_16, ↓v68_19, ↓v68_22, ↓v68_23, ↓v68_24, ↓v68_25, ↓v68_26, ↓v68_29, ↓v68_30, ↓v68_31, ↓v68_34, ↓v68_37, ↓v68_40, ↓v68_41, ↓v68_42, ↓v68_43, ↓v68_46, ↓v68_47, ↓v68_50, ↓v68_51, ↓v68_52, ↓v68_55, ↓v68_56, ↓qI_c, ↓qL_c, ↓qR_c, ↓pA_o, ↓qC_i, ↓qC_r, ↓oA_s, ↓gI_0, ↓gI_1, ↓gI_2, ↓gI_3, ↓gI_4, ↓gI_5, ↓gI_6, ↓gI_7, ↓gI_8, ↓gI_9, ↓gI_10, ↓gR_0, ↓gR_1, ↓gR_2, ↓gR_3, ↓gR_4, ↓gR_5, ↓gR_6, ↓gR_7, ↓gR_8, ↓gR_9, ↓gR_10, ↓sL_0, ↓sL_1, ↓sL_2, ↓sL_3, ↓sL_4, ↓sL_5, ↓sL_6, ↓sL_7, ↓sL_8, ↓sL_9, ↓sL_10, ↓rrf_si, ↓rrf_sg, ↓shO_si, ↓shO_sg, ↓shO_sr, ↓shA_si, ↓shA_sg, ↓shA_sr, ↓pAs_0, ↓pAs_i, ↓pAs_r, stk_n, stk_i, stk_l, stk_r, List.nil_append, List.cons_append, true_and, and_true, true_or, or_true, Nat.zero_add, dp_s, Nat.reduceAdd, le8_0, le8_1, le8_2, le8_3, le8_4, le8_5, le8_6, le8_7, le8_8, Classical.not_not, aT40, aT41, aT42, aT44, aT54, aT58, aT59, rT54, rT58, rT59, reduceIte, Nat.reduceEqDiff, qn_42, qn_44, true_implies, not_true_eq_false, not_false_eq_true, false_implies, ↓shO_of h3.1.1.1, ↓rrf_of h3.1.2.1.2.2.1, ↓shO_of b3.1.1, c3]
  refine k29 (by omega) ⟨_, rfl, ?_⟩
  refine vc_X 30 _ _ _ _ _ _ _ ?_
  simp only [↓v68_0, ↓v68_1, ↓v68_4, ↓v68_5, ↓v68_8, ↓v68_9, ↓v68_12, ↓v68_15, ↓v68_16, ↓v68_19, ↓v68_22, ↓v68_23, ↓v68_24, ↓v68_25, ↓v68_26, ↓v68_29, ↓v68_30, ↓v68_31, ↓v68_34, ↓v68_37, ↓v68_40, ↓v68_41, ↓v68_42, ↓v68_43, ↓v68_46, ↓v68_47, ↓v68_50, ↓v68_51, ↓v68_52, ↓v68_55, ↓v68_56, ↓qI_c, ↓qL_c, ↓qR_c, ↓pA_o, ↓qC_i, ↓qC_r, ↓oA_s, ↓gI_0, ↓gI_1, ↓gI_2, ↓gI_3, ↓gI_4, ↓gI_5, ↓gI_6, ↓gI_7, ↓gI_8, ↓gI_9, ↓gI_10, ↓gR_0, ↓gR_1, ↓gR_2, ↓gR_3, ↓gR_4, ↓gR_5, ↓gR_6, ↓gR_7, ↓gR_8, ↓gR_9, ↓gR_10, ↓sL_0, ↓sL_1, ↓sL_2, ↓sL_3, ↓sL_4, ↓sL_5, ↓sL_6, ↓sL_7, ↓sL_8, ↓sL_9, ↓sL_10, ↓rrf_si, ↓rrf_sg, ↓shO_si, ↓shO_sg, ↓shO_sr, ↓shA_si, ↓shA_sg, ↓shA_sr, ↓pAs_0, ↓pAs_i, ↓pAs_r, stk_n, stk_i, stk_l, stk_r, List.nil_append, List.cons_append, true_and, and_true, true_or, or_true, Nat.zero_add, dp_s, Nat.reduceAdd, le8_0, le8_1, le8_2, le8_3, le8_4, le8_5, le8_6, le8_7, le8_8, Classical.not_not, aT40, aT41, aT42, aT44, aT54, aT58, aT59, rT54, rT58, rT59, reduceIte, Nat.reduceEqDiff, qn_42, qn_44, true_implies, not_true_eq_false, not_false_eq_true, false_implies, ↓shO_of h3.1.1.1]
  have hw3 : okW (Q.2.2 ++ wrs Q.1 Q.2.1 Q.2.2.length (16 * e + L.1 e) (chL 2 0 ct F.2.2.2.1) (nuA Q.2.2 (E.1 e)) ((ct.length + 23) / 16)) := wrs_okW hw (chL_lt (by omega) (by omega) hct (by omega))
  refine k71 h3 hw3 f3 (by rw [List.length_append, wrs_len]; omega) (fun M4 h4 o4 => ⟨rfl, ?_⟩)
  have x4 := h4.2.2.2.2.2.1
  have g4 : Ag (fun y => ¬ (PQ (b + 7) y ∨ y = b + 275)) M3 M4 := o4.ag (fun _ h => h)
  have f4 := f3.ag g4 (by unfold PQ; omega) (by unfold PQ; omega)
  refine vc_X 30 _ _ _ _ _ _ _ ?_
  simp only [↓v68_0, ↓v68_1, ↓v68_4, ↓v68_5, ↓v68_8, ↓v68_9, ↓v68_12, ↓v68_15, ↓v68_16, ↓v68_19, ↓v68_22, ↓v68_23, ↓v68_24, ↓v68_25, ↓v68_26, ↓v68_29, ↓v68_30, ↓v68_31, ↓v68_34, ↓v68_37, ↓v68_40, ↓v68_41, ↓v68_42, ↓v68_43, ↓v68_46, ↓v68_47, ↓v68_50, ↓v68_51, ↓v68_52, ↓v68_55, ↓v68_56, ↓qI_c, ↓qL_c, ↓qR_c, ↓pA_o, ↓qC_i, ↓qC_r, ↓oA_s, ↓gI_0, ↓gI_1, ↓gI_2, ↓gI_3, ↓gI_4, ↓gI_5, ↓gI_6, ↓gI_7, ↓gI_8, ↓gI_9, ↓gI_10, ↓gR_0, ↓gR_1, ↓gR_2, ↓gR_3, ↓gR_4, ↓gR_5, ↓gR_6, ↓gR_7, ↓gR_8, ↓gR_9, ↓gR_10, ↓sL_0, ↓sL_1, ↓sL_2, ↓sL_3, ↓sL_4, ↓sL_5, ↓sL_6, ↓sL_7, ↓sL_8, ↓sL_9, ↓sL_10, ↓rrf_si, ↓rrf_sg, ↓shO_si, ↓shO_sg, ↓shO_sr, ↓shA_si, ↓shA_sg, ↓shA_sr, ↓pAs_0, ↓pAs_i, ↓pAs_r, stk_n, stk_i, stk_l, stk_r, List.nil_append, List.cons_append, true_and, and_true, true_or, or_true, Nat.zero_add, dp_s, Nat.reduceAdd, le8_0, le8_1, le8_2, le8_3, le8_4, le8_5, le8_6, le8_7, le8_8, Classical.not_not, aT40, aT41, aT42, aT44, aT54, aT58, aT59, rT54, rT58, rT59, reduceIte, Nat.reduceEqDiff, qn_42, qn_44, true_implies, not_true_eq_false, not_false_eq_true, false_implies, ↓shO_of h4.1.1.1, ↓rrf_of h4.1.1.2.2.2.2.2.2, ↓shO_of x4.1.1]
  refine k77 x4 f4 (by omega) (fun M5 x5 o5 => ⟨rfl, ?_⟩)
  refine vc_X 30 _ _ _ _ _ _ _ ?_
  simp only [↓v68_0, ↓v68_1, ↓v68_4, ↓v68_5, ↓v68_8, ↓v68_9, ↓v68_12, ↓v68_15, ↓v68_16, ↓v68_19, ↓v68_22, ↓v68_23, ↓v68_24, ↓v68_25, ↓v68_26, ↓v68_29, ↓v68_30, ↓v68_31, ↓v68_34, ↓v68_37, ↓v68_40, ↓v68_41, ↓v68_42, ↓v68_43, ↓v68_46, ↓v68_47, ↓v68_50, ↓v68_51, ↓v68_52, ↓v68_55, ↓v68_56, ↓qI_c, ↓qL_c, ↓qR_c, ↓pA_o, ↓qC_i, ↓qC_r, ↓oA_s, ↓gI_0, ↓gI_1, ↓gI_2, ↓gI_3, ↓gI_4, ↓gI_5, ↓gI_6, ↓gI_7, ↓gI_8, ↓gI_9, ↓gI_10, ↓gR_0, ↓gR_1, ↓gR_2, ↓gR_3, ↓gR_4, ↓gR_5, ↓gR_6, ↓gR_7, ↓gR_8, ↓gR_9, ↓gR_10, ↓sL_0, ↓sL_1, ↓sL_2, ↓sL_3, ↓sL_4, ↓sL_5, ↓sL_6, ↓sL_7, ↓sL_8, ↓sL_9, ↓sL_10, ↓rrf_si, ↓rrf_sg, ↓shO_si, ↓shO_sg, ↓shO_sr, ↓shA_si, ↓shA_sg, ↓shA_sr, ↓pAs_0, ↓pAs_i, ↓pAs_r, stk_n, stk_i, stk_l, stk_r, List.nil_append, List.cons_append, true_and, and_true, true_or, or_true, Nat.zero_add, dp_s, Nat.reduceAdd, le8_0, le8_1, le8_2, le8_3, le8_4, le8_5, le8_6, le8_7, le8_8, Classical.not_not, aT40, aT41, aT42, aT44, aT54, aT58, aT59, rT54, rT58, rT59, reduceIte, Nat.reduceEqDiff, qn_42, qn_44, true_implies, not_true_eq_false, not_false_eq_true, false_implies]
  have h5 := h4.upI x5 o5
  refine hk M5 h5 ?_
  exact ((((o1.of (P := PT b) (fun x hx => by simp at hx; unfold PT PX; omega)).trans (o2.of (P := PT b) (fun x hx => by simp at hx; unfold PT; omega)) (fun _ x => x)).trans o3 (fun x hx => Or.inl hx)).trans o4 (fun x hx => by unfold PT PM; rcases hx with h | h; exact Or.inl (Or.inr (Or.inl h)); omega)).trans o5 (fun x hx => Or.inr (Or.inl hx))
end
