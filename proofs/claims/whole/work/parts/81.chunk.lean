/-! reading blocks and chunks -/
def RD (M : Mm) (b : Nat) (dk : Nat → Nat) (Q : QT) : Prop := M.sh b = some (0, 0) ∧ M.rf b 0 = some (b + 1) ∧ M.rf b 1 = some (b + 7) ∧ DkC M (b + 1) dk ∧ QuC M (b + 7) Q.1 Q.2.1 Q.2.2
theorem CP.rd {M : Mm} {b : Nat} {D : DT} {Q : QT} {C : List Nat × Nat} {L : (Nat → Nat) × Option Nat} {I : IT} {T : List Nat × List Nat} {E : (Nat → Option Nat) × (Nat → Bool)} {F : FT} (h : CP M b D Q C L I T E F) : RD M b D.1 Q := ⟨h.1.1.1, h.1.1.2.1, h.1.1.2.2.1, h.2.1.1, h.2.2.1.1⟩
theorem RD.ag {P : Nat → Prop} {M M' : Mm} {b : Nat} {dk : Nat → Nat} {Q : QT} (h : RD M b dk Q) (g : Ag P M M') (hP : ∀ x, b ≤ x ∧ x < b + 249 → P x) : RD M' b dk Q := by
  obtain ⟨h1, h2, h3, h4, h5⟩ := h
  have p0 : P b := hP b (by omega)
  exact ⟨by rw [g.sh p0]; exact h1, by rw [g.rf p0]; exact h2, by rw [g.rf p0]; exact h3, h4.ag g (hP _ (by omega)) (hP _ (by omega)) (hP _ (by omega)), h5.ag g (fun x hx => hP x (by unfold PQ at hx; omega))⟩
theorem RD.keep {A : List Nat} {M M' : Mm} {b : Nat} {dk : Nat → Nat} {Q : QT} (h : RD M b dk Q) (o : On A M M') (hA : ∀ x ∈ A, b + 249 ≤ x) : RD M' b dk Q := h.ag ((o.of (P := fun x => b + 249 ≤ x) hA).ag (R := fun x => ¬ b + 249 ≤ x) (fun _ h => h)) (fun x hx => by omega)
/-- the place in the queue of the latest write of a block -/
def wAt (ws : List WT) (bl : Nat) : Option Nat := lst_ (tgtP ws bl) ws.length
def byN (x : WT) (i : Nat) : Nat := (x.2.2.2.2.1 i).toInt.toNat
def bvW (dk : Nat → Nat) (ws : List WT) (bl i : Nat) (o : Option Nat) : Nat := match o with
  | some k => (match ws[k]? with
    | some x => byN x i
    | none => 0)
  | none => dk (16 * bl + i)
/-- a byte of a block, as it is now -/
def bv (dk : Nat → Nat) (ws : List WT) (bl i : Nat) : Nat := bvW dk ws bl i (wAt ws bl)
def okW (ws : List WT) : Prop := ∀ (k : Nat) (x : WT), ws[k]? = some x → x.2.2.1 < 128 → ∀ i, i < 16 → x.2.2.2.2.1 i = nI (byN x i) ∧ byN x i < 256
theorem lst_spec (p : Nat → Bool) : ∀ n k, lst_ p n = some k → p k = true ∧ k < n := by
  intro n
  induction n with
  | zero => intro k h; cases h
  | succ n ih =>
    intro k h
    have h : (if p n then some n else lst_ p n) = some k := h
    by_cases hp : p n = true
    · rw [if_pos hp] at h
      cases h
      exact ⟨hp, by omega⟩
    · rw [if_neg hp] at h
      exact ⟨(ih k h).1, by have := (ih k h).2; omega⟩
theorem wAt_spec {ws : List WT} {bl k : Nat} (h : wAt ws bl = some k) : ∃ x, ws[k]? = some x ∧ x.2.2.1 = bl := by
  have hs := lst_spec _ _ _ h
  have hx : ws[k]? = some ws[k] := List.getElem?_eq_getElem hs.2
  refine ⟨_, hx, ?_⟩
  have := hs.1
  unfold tgtP at this
  rw [hx] at this
  simpa using this
theorem bv_lt {M : Mm} {b : Nat} {dk : Nat → Nat} {Q : QT} (h : RD M b dk Q) (hw : okW Q.2.2) {bl i : Nat} (hb : bl < 128) (hi : i < 16) : bv dk Q.2.2 bl i < 256 := by
  unfold bv
  cases ho : wAt Q.2.2 bl with
  | none => exact (h.2.2.2.1.2 _ (by omega)).2
  | some k =>
    obtain ⟨x, hx, ht⟩ := wAt_spec ho
    unfold bvW
    simp only [hx]
    exact (hw k x hx (by omega) i hi).2
/-- the length of the chunk at a place, the blocks that it has -/
def lnA (dk : Nat → Nat) (ws : List WT) (p : Nat) : Nat := bv dk ws p 3
def nbA (dk : Nat → Nat) (ws : List WT) (p : Nat) : Nat := (lnA dk ws p + 23) / 16
theorem k24 {d : Nat} {M : Mm} {k : mQ} {b p : Nat} {dk : Nat → Nat} {Q : QT} (h : RD M b dk Q) (hw : okW Q.2.2) (hp : p < 128) (hk : k (some (.inl (nI (lnA dk Q.2.2 p)))) M) : XC (d + 3) 24 [.inr (some b), .inl (nI p)] M k := by
  refine xc ?_
  show X (d + 2) 24 0 [some (.inr (some b)), some (.inl (nI p)), none, none] [] M k
  have hlt := bv_lt h hw hp (show 3 < 16 by omega)
  have em : imax (nI (bv dk Q.2.2 p 3)) 0 = nI (bv dk Q.2.2 p 3) := by
    unfold imax
    rw [if_neg (by rw [lt_T, T_0, nT (by omega)]; omega)]
  have tail : ∀ z2 z3 : Option mL, X (d + 2) 24 30 [some (.inr (some b)), some (.inl (nI p)), z2, z3] [.inl (nI (bv dk Q.2.2 p 3))] M k := by
    intro z2 z3
    refine vc_X 20 _ _ _ _ _ _ _ ?_
    simp only [↓v24_0, ↓v24_1, ↓v24_4, ↓v24_5, ↓v24_8, ↓v24_9, ↓v24_10, ↓v24_13, ↓v24_14, ↓v24_15, ↓v24_18, ↓v24_21, ↓v24_22, ↓v24_25, ↓v24_26, ↓v24_27, ↓v24_30, ↓v24_31, ↓v24_32, ↓v24_33, ↓v24_36, ↓qI_c, ↓qL_c, ↓qR_c, ↓pA_o, ↓qC_i, ↓qC_r, ↓oA_s, ↓gI_0, ↓gI_1, ↓gI_2, ↓gI_3, ↓gI_4, ↓gI_5, ↓gI_6, ↓gI_7, ↓gI_8, ↓gI_9, ↓gI_10, ↓gR_0, ↓gR_1, ↓gR_2, ↓gR_3, ↓gR_4, ↓gR_5, ↓gR_6, ↓gR_7, ↓gR_8, ↓gR_9, ↓gR_10, ↓sL_0, ↓sL_1, ↓sL_2, ↓sL_3, ↓sL_4, ↓sL_5, ↓sL_6, ↓sL_7, ↓sL_8, ↓sL_9, ↓sL_10, ↓rrf_si, ↓rrf_sg, ↓shO_si, ↓shO_sg, ↓shO_sr, ↓shA_si, ↓shA_sg, ↓shA_sr, ↓pAs_0, ↓pAs_i, ↓pAs_r, stk_n, stk_i, stk_l, stk_r, List.nil_append, List.cons_append, true_and, and_true, true_or, or_true, Nat.zero_add, dp_s, Nat.reduceAdd, le8_0, le8_1, le8_2, le8_3, le8_4, le8_5, le8_6, le8_7, le8_8, Classical.not_not, aT40, aT41, aT42, aT44, aT54, aT58, aT59, rT54, rT58, rT59, reduceIte, Nat.reduceEqDiff, qn_42, qn_44, true_implies, not_true_eq_false, not_false_eq_true, false_implies, em]
    exact hk
  obtain ⟨h1, h2, h3, h4, h5⟩ := id h
  refine vc_X 20 _ _ _ _ _ _ _ ?_
  simp only [↓v24_0, ↓v24_1, ↓v24_4, ↓v24_5, ↓v24_8, ↓v24_9, ↓v24_10, ↓v24_13, ↓v24_14, ↓v24_15, ↓v24_18, ↓v24_21, ↓v24_22, ↓v24_25, ↓v24_26, ↓v24_27, ↓v24_30, ↓v24_31, ↓v24_32, ↓v24_33, ↓v24_36, ↓qI_c, ↓qL_c, ↓qR_c, ↓pA_o, ↓qC_i, ↓qC_r, ↓oA_s, ↓gI_0, ↓gI_1, ↓gI_2, ↓gI_3, ↓gI_4, ↓gI_5, ↓gI_6, ↓gI_7, ↓gI_8, ↓gI_9, ↓gI_10, ↓gR_0, ↓gR_1, ↓gR_2, ↓gR_3, ↓gR_4, ↓gR_5, ↓gR_6, ↓gR_7, ↓gR_8, ↓gR_9, ↓gR_10, ↓sL_0, ↓sL_1, ↓sL_2, ↓sL_3, ↓sL_4, ↓sL_5, ↓sL_6, ↓sL_7, ↓sL_8, ↓sL_9, ↓sL_10, ↓rrf_si, ↓rrf_sg, ↓shO_si, ↓shO_sg, ↓shO_sr, ↓shA_si, ↓shA_sg, ↓shA_sr, ↓pAs_0, ↓pAs_i, ↓pAs_r, stk_n, stk_i, stk_l, stk_r, List.nil_append, List.cons_append, true_and, and_true, true_or, or_true, Nat.zero_add, dp_s, Nat.reduceAdd, le8_0, le8_1, le8_2, le8_3, le8_4, le8_5, le8_6, le8_7, le8_8, Classical.not_not, aT40, aT41, aT42, aT44, aT54, aT58, aT59, rT54, rT58, rT59, reduceIte, Nat.reduceEqDiff, qn_42, qn_44, true_implies, not_true_eq_false, not_false_eq_true, false_implies, ↓shO_of h1, ↓rrf_of h3, ↓shO_of h5.1.1]
  refine k25 h5 (by omega) ⟨_, rfl, ?_⟩
  show X (d + 2) 24 8 _ [.inr (.inr (adO (b + 7) Q.1 (wAt Q.2.2 p)))] M k
  cases ho : wAt Q.2.2 p with
  | none =>
    have e : adO (b + 7) Q.1 none = none := rfl
    rw [e]
    refine vc_X 20 _ _ _ _ _ _ _ ?_
    simp only [↓v24_0, ↓v24_1, ↓v24_4, ↓v24_5, ↓v24_8, ↓v24_9, ↓v24_10, ↓v24_13, ↓v24_14, ↓v24_15, ↓v24_18, ↓v24_21, ↓v24_22, ↓v24_25, ↓v24_26, ↓v24_27, ↓v24_30, ↓v24_31, ↓v24_32, ↓v24_33, ↓v24_36, ↓qI_c, ↓qL_c, ↓qR_c, ↓pA_o, ↓qC_i, ↓qC_r, ↓oA_s, ↓gI_0, ↓gI_1, ↓gI_2, ↓gI_3, ↓gI_4, ↓gI_5, ↓gI_6, ↓gI_7, ↓gI_8, ↓gI_9, ↓gI_10, ↓gR_0, ↓gR_1, ↓gR_2, ↓gR_3, ↓gR_4, ↓gR_5, ↓gR_6, ↓gR_7, ↓gR_8, ↓gR_9, ↓gR_10, ↓sL_0, ↓sL_1, ↓sL_2, ↓sL_3, ↓sL_4, ↓sL_5, ↓sL_6, ↓sL_7, ↓sL_8, ↓sL_9, ↓sL_10, ↓rrf_si, ↓rrf_sg, ↓shO_si, ↓shO_sg, ↓shO_sr, ↓shA_si, ↓shA_sg, ↓shA_sr, ↓pAs_0, ↓pAs_i, ↓pAs_r, stk_n, stk_i, stk_l, stk_r, List.nil_append, List.cons_append, true_and, and_true, true_or, or_true, Nat.zero_add, dp_s, Nat.reduceAdd, le8_0, le8_1, le8_2, le8_3, le8_4, le8_5, le8_6, le8_7, le8_8, Classical.not_not, aT40, aT41, aT42, aT44, aT54, aT58, aT59, rT54, rT58, rT59, reduceIte, Nat.reduceEqDiff, qn_42, qn_44, true_implies, not_true_eq_false, not_false_eq_true, false_implies, ↓shO_of h1, ↓rrf_of h2, ↓shO_of h4.1.1]
    refine k28 h4 (fun b' j hb' hj e1 e2 => ⟨_, rfl, ?_⟩) (fun c => absurd ⟨inB_n hp (by omega), (show inB (nI 3) 16 from inB_n (by omega) (by omega))⟩ c)
    rw [nI_eq (by omega) (by omega)] at e1
    subst e1
    have e2 : j = 3 := by
      have e3 : nI 3 = nI j := e2
      rw [nI_eq (by omega) (by omega)] at e3
      omega
    subst e2
    have e3 : bv dk Q.2.2 p 3 = dk (16 * p + 3) := by unfold bv; rw [ho]; rfl
    rw [← e3]
    exact tail _ _
  | some kk =>
    obtain ⟨x, hx, ht⟩ := wAt_spec ho
    obtain ⟨-, w⟩ := h5.2.2.2.2.2 kk x hx
    have e : adO (b + 7) Q.1 (some kk) = some (b + 7 + 2 + 2 * Q.1 kk) := rfl
    rw [e]
    refine vc_X 20 _ _ _ _ _ _ _ ?_
    simp only [↓v24_0, ↓v24_1, ↓v24_4, ↓v24_5, ↓v24_8, ↓v24_9, ↓v24_10, ↓v24_13, ↓v24_14, ↓v24_15, ↓v24_18, ↓v24_21, ↓v24_22, ↓v24_25, ↓v24_26, ↓v24_27, ↓v24_30, ↓v24_31, ↓v24_32, ↓v24_33, ↓v24_36, ↓qI_c, ↓qL_c, ↓qR_c, ↓pA_o, ↓qC_i, ↓qC_r, ↓oA_s, ↓gI_0, ↓gI_1, ↓gI_2, ↓gI_3, ↓gI_4, ↓gI_5, ↓gI_6, ↓gI_7, ↓gI_8, ↓gI_9, ↓gI_10, ↓gR_0, ↓gR_1, ↓gR_2, ↓gR_3, ↓gR_4, ↓gR_5, ↓gR_6, ↓gR_7, ↓gR_8, ↓gR_9, ↓gR_10, ↓sL_0, ↓sL_1, ↓sL_2, ↓sL_3, ↓sL_4, ↓sL_5, ↓sL_6, ↓sL_7, ↓sL_8, ↓sL_9, ↓sL_10, ↓rrf_si, ↓rrf_sg, ↓shO_si, ↓shO_sg, ↓shO_sr, ↓shA_si, ↓shA_sg, ↓shA_sr, ↓pAs_0, ↓pAs_i, ↓pAs_r, stk_n, stk_i, stk_l, stk_r, List.nil_append, List.cons_append, true_and, and_true, true_or, or_true, Nat.zero_add, dp_s, Nat.reduceAdd, le8_0, le8_1, le8_2, le8_3, le8_4, le8_5, le8_6, le8_7, le8_8, Classical.not_not, aT40, aT41, aT42, aT44, aT54, aT58, aT59, rT54, rT58, rT59, reduceIte, Nat.reduceEqDiff, qn_42, qn_44, true_implies, not_true_eq_false, not_false_eq_true, false_implies, sn, ↓shO_of w.1.1]
    refine k27 w (fun j hj e1 => ⟨_, rfl, ?_⟩) (fun c => absurd (show inB (nI 3) 16 from inB_n (by omega) (by omega)) c)
    have e2 : j = 3 := by
      have e3 : nI 3 = nI j := e1
      rw [nI_eq (by omega) (by omega)] at e3
      omega
    subst e2
    have e3 : bv dk Q.2.2 p 3 = byN x 3 := by unfold bv; rw [ho]; unfold bvW; simp only [hx]
    rw [(hw kk x hx (by omega) 3 hj).1, ← e3]
    refine vc_X 20 _ _ _ _ _ _ _ ?_
    simp only [↓v24_0, ↓v24_1, ↓v24_4, ↓v24_5, ↓v24_8, ↓v24_9, ↓v24_10, ↓v24_13, ↓v24_14, ↓v24_15, ↓v24_18, ↓v24_21, ↓v24_22, ↓v24_25, ↓v24_26, ↓v24_27, ↓v24_30, ↓v24_31, ↓v24_32, ↓v24_33, ↓v24_36, ↓qI_c, ↓qL_c, ↓qR_c, ↓pA_o, ↓qC_i, ↓qC_r, ↓oA_s, ↓gI_0, ↓gI_1, ↓gI_2, ↓gI_3, ↓gI_4, ↓gI_5, ↓gI_6, ↓gI_7, ↓gI_8, ↓gI_9, ↓gI_10, ↓gR_0, ↓gR_1, ↓gR_2, ↓gR_3, ↓gR_4, ↓gR_5, ↓gR_6, ↓gR_7, ↓gR_8, ↓gR_9, ↓gR_10, ↓sL_0, ↓sL_1, ↓sL_2, ↓sL_3, ↓sL_4, ↓sL_5, ↓sL_6, ↓sL_7, ↓sL_8, ↓sL_9, ↓sL_10, ↓rrf_si, ↓rrf_sg, ↓shO_si, ↓shO_sg, ↓shO_sr, ↓shA_si, ↓shA_sg, ↓shA_sr, ↓pAs_0, ↓pAs_i, ↓pAs_r, stk_n, stk_i, stk_l, stk_r, List.nil_append, List.cons_append, true_and, and_true, true_or, or_true, Nat.zero_add, dp_s, Nat.reduceAdd, le8_0, le8_1, le8_2, le8_3, le8_4, le8_5, le8_6, le8_7, le8_8, Classical.not_not, aT40, aT41, aT42, aT44, aT54, aT58, aT59, rT54, rT58, rT59, reduceIte, Nat.reduceEqDiff, qn_42, qn_44, true_implies, not_true_eq_false, not_false_eq_true, false_implies]
    exact tail _ _
theorem k23 {d : Nat} {M : Mm} {k : mQ} {b p : Nat} {dk : Nat → Nat} {Q : QT} (h : RD M b dk Q) (hw : okW Q.2.2) (hp : p < 128) (hk : k (some (.inl (nI (nbA dk Q.2.2 p)))) M) : XC (d + 4) 23 [.inr (some b), .inl (nI p)] M k := by
  refine xc ?_
  show X (d + 3) 23 0 [some (.inr (some b)), some (.inl (nI p))] [] M k
  refine vc_X 20 _ _ _ _ _ _ _ ?_
  simp only [↓v23_0, ↓v23_1, ↓v23_2, ↓v23_5, ↓v23_8, ↓qI_c, ↓qL_c, ↓qR_c, ↓pA_o, ↓qC_i, ↓qC_r, ↓oA_s, ↓gI_0, ↓gI_1, ↓gI_2, ↓gI_3, ↓gI_4, ↓gI_5, ↓gI_6, ↓gI_7, ↓gI_8, ↓gI_9, ↓gI_10, ↓gR_0, ↓gR_1, ↓gR_2, ↓gR_3, ↓gR_4, ↓gR_5, ↓gR_6, ↓gR_7, ↓gR_8, ↓gR_9, ↓gR_10, ↓sL_0, ↓sL_1, ↓sL_2, ↓sL_3, ↓sL_4, ↓sL_5, ↓sL_6, ↓sL_7, ↓sL_8, ↓sL_9, ↓sL_10, ↓rrf_si, ↓rrf_sg, ↓shO_si, ↓shO_sg, ↓shO_sr, ↓shA_si, ↓shA_sg, ↓shA_sr, ↓pAs_0, ↓pAs_i, ↓pAs_r, stk_n, stk_i, stk_l, stk_r, List.nil_append, List.cons_append, true_and, and_true, true_or, or_true, Nat.zero_add, dp_s, Nat.reduceAdd, le8_0, le8_1, le8_2, le8_3, le8_4, le8_5, le8_6, le8_7, le8_8, Classical.not_not, aT40, aT41, aT42, aT44, aT54, aT58, aT59, rT54, rT58, rT59, reduceIte, Nat.reduceEqDiff, qn_42, qn_44, true_implies, not_true_eq_false, not_false_eq_true, false_implies, ↓shO_of h.1]
  refine k24 h hw hp ⟨_, rfl, ?_⟩
  have hlt := bv_lt h hw hp (show 3 < 16 by omega)
  refine vc_X 20 _ _ _ _ _ _ _ ?_
  simp only [↓v23_0, ↓v23_1, ↓v23_2, ↓v23_5, ↓v23_8, ↓qI_c, ↓qL_c, ↓qR_c, ↓pA_o, ↓qC_i, ↓qC_r, ↓oA_s, ↓gI_0, ↓gI_1, ↓gI_2, ↓gI_3, ↓gI_4, ↓gI_5, ↓gI_6, ↓gI_7, ↓gI_8, ↓gI_9, ↓gI_10, ↓gR_0, ↓gR_1, ↓gR_2, ↓gR_3, ↓gR_4, ↓gR_5, ↓gR_6, ↓gR_7, ↓gR_8, ↓gR_9, ↓gR_10, ↓sL_0, ↓sL_1, ↓sL_2, ↓sL_3, ↓sL_4, ↓sL_5, ↓sL_6, ↓sL_7, ↓sL_8, ↓sL_9, ↓sL_10, ↓rrf_si, ↓rrf_sg, ↓shO_si, ↓shO_sg, ↓shO_sr, ↓shA_si, ↓shA_sg, ↓shA_sr, ↓pAs_0, ↓pAs_i, ↓pAs_r, stk_n, stk_i, stk_l, stk_r, List.nil_append, List.cons_append, true_and, and_true, true_or, or_true, Nat.zero_add, dp_s, Nat.reduceAdd, le8_0, le8_1, le8_2, le8_3, le8_4, le8_5, le8_6, le8_7, le8_8, Classical.not_not, aT40, aT41, aT42, aT44, aT54, aT58, aT59, rT54, rT58, rT59, reduceIte, Nat.reduceEqDiff, qn_42, qn_44, true_implies, not_true_eq_false, not_false_eq_true, false_implies]
  refine k29 (by unfold lnA; omega) ⟨_, rfl, ?_⟩
  refine vc_X 20 _ _ _ _ _ _ _ ?_
  simp only [↓v23_0, ↓v23_1, ↓v23_2, ↓v23_5, ↓v23_8, ↓qI_c, ↓qL_c, ↓qR_c, ↓pA_o, ↓qC_i, ↓qC_r, ↓oA_s, ↓gI_0, ↓gI_1, ↓gI_2, ↓gI_3, ↓gI_4, ↓gI_5, ↓gI_6, ↓gI_7, ↓gI_8, ↓gI_9, ↓gI_10, ↓gR_0, ↓gR_1, ↓gR_2, ↓gR_3, ↓gR_4, ↓gR_5, ↓gR_6, ↓gR_7, ↓gR_8, ↓gR_9, ↓gR_10, ↓sL_0, ↓sL_1, ↓sL_2, ↓sL_3, ↓sL_4, ↓sL_5, ↓sL_6, ↓sL_7, ↓sL_8, ↓sL_9, ↓sL_10, ↓rrf_si, ↓rrf_sg, ↓shO_si, ↓shO_sg, ↓shO_sr, ↓shA_si, ↓shA_sg, ↓shA_sr, ↓pAs_0, ↓pAs_i, ↓pAs_r, stk_n, stk_i, stk_l, stk_r, List.nil_append, List.cons_append, true_and, and_true, true_or, or_true, Nat.zero_add, dp_s, Nat.reduceAdd, le8_0, le8_1, le8_2, le8_3, le8_4, le8_5, le8_6, le8_7, le8_8, Classical.not_not, aT40, aT41, aT42, aT44, aT54, aT58, aT59, rT54, rT58, rT59, reduceIte, Nat.reduceEqDiff, qn_42, qn_44, true_implies, not_true_eq_false, not_false_eq_true, false_implies]
  exact hk
/-- using blocks: cache and reads -/
def usB (ws : List WT) (C : List Nat × Nat) (bl : Nat) : List Nat × Nat := match wAt ws bl with
  | none => (cuL C.1 bl, C.2 + cuR C.1 bl)
  | some _ => C
def usN (ws : List WT) (C : List Nat × Nat) (p : Nat) : Nat → List Nat × Nat
  | 0 => C
  | n + 1 => usB ws (usN ws C p n) (p + n)
theorem usB_le (ws : List WT) (C : List Nat × Nat) (bl : Nat) : (usB ws C bl).2 ≤ C.2 + 1 := by
  unfold usB
  cases wAt ws bl with
  | none =>
    show C.2 + cuR C.1 bl ≤ _
    unfold cuR
    split <;> omega
  | some _ => exact Nat.le_succ _
theorem usN_le (ws : List WT) (C : List Nat × Nat) (p : Nat) : ∀ n, (usN ws C p n).2 ≤ C.2 + n
  | 0 => Nat.le_refl _
  | n + 1 => by
    have := usN_le ws C p n
    have h2 := usB_le ws (usN ws C p n) (p + n)
    show (usB ws (usN ws C p n) (p + n)).2 ≤ _
    omega
section
variable {D : DT} {Q : QT} {C : List Nat × Nat} {L : (Nat → Nat) × Option Nat} {I : IT} {T : List Nat × List Nat} {E : (Nat → Option Nat) × (Nat → Bool)} {F : FT}
theorem lop22 {d : Nat} {k : mQ} {b p n : Nat} (hp : p < 128) (hn : n < 100) (hC : C.2 + 100 < 50000000) : ∀ (m i : Nat) (M : Mm), i + m = n → CP M b D Q (usN Q.2.2 C p i) L I T E F → (∀ M', CP M' b D Q (usN Q.2.2 C p n) L I T E F → On [b + 249, b + 250] M M' → k none M') →
    X (d + 2) 22 8 [some (.inr (some b)), some (.inl (nI p)), some (.inl (nI n)), some (.inl (nI (p + i)))] [] M k := by
  intro m
  induction m with
  | zero =>
    intro i M hi h hk
    have e : i = n := by omega
    subst e
    refine vc_X 30 _ _ _ _ _ _ _ ?_
    simp only [↓v22_0, ↓v22_1, ↓v22_2, ↓v22_5, ↓v22_6, ↓v22_7, ↓v22_8, ↓v22_9, ↓v22_10, ↓v22_11, ↓v22_12, ↓v22_15, ↓v22_16, ↓v22_19, ↓v22_20, ↓v22_23, ↓v22_26, ↓v22_27, ↓v22_30, ↓v22_31, ↓v22_34, ↓v22_37, ↓v22_40, ↓qI_c, ↓qL_c, ↓qR_c, ↓pA_o, ↓qC_i, ↓qC_r, ↓oA_s, ↓gI_0, ↓gI_1, ↓gI_2, ↓gI_3, ↓gI_4, ↓gI_5, ↓gI_6, ↓gI_7, ↓gI_8, ↓gI_9, ↓gI_10, ↓gR_0, ↓gR_1, ↓gR_2, ↓gR_3, ↓gR_4, ↓gR_5, ↓gR_6, ↓gR_7, ↓gR_8, ↓gR_9, ↓gR_10, ↓sL_0, ↓sL_1, ↓sL_2, ↓sL_3, ↓sL_4, ↓sL_5, ↓sL_6, ↓sL_7, ↓sL_8, ↓sL_9, ↓sL_10, ↓rrf_si, ↓rrf_sg, ↓shO_si, ↓shO_sg, ↓shO_sr, ↓shA_si, ↓shA_sg, ↓shA_sr, ↓pAs_0, ↓pAs_i, ↓pAs_r, stk_n, stk_i, stk_l, stk_r, List.nil_append, List.cons_append, true_and, and_true, true_or, or_true, Nat.zero_add, dp_s, Nat.reduceAdd, le8_0, le8_1, le8_2, le8_3, le8_4, le8_5, le8_6, le8_7, le8_8, Classical.not_not, aT40, aT41, aT42, aT44, aT54, aT58, aT59, rT54, rT58, rT59, reduceIte, Nat.reduceEqDiff, qn_42, qn_44, true_implies, not_true_eq_false, not_false_eq_true, false_implies, nI_add, le_T, nT (show p + i < 2147483648 by omega), Int.le_refl]
    exact hk M h On.rf_
  | succ m ih =>
    intro i M hi h hk
    have hr := h.rd
    refine vc_X 30 _ _ _ _ _ _ _ ?_
    simp only [↓v22_0, ↓v22_1, ↓v22_2, ↓v22_5, ↓v22_6, ↓v22_7, ↓v22_8, ↓v22_9, ↓v22_10, ↓v22_11, ↓v22_12, ↓v22_15, ↓v22_16, ↓v22_19, ↓v22_20, ↓v22_23, ↓v22_26, ↓v22_27, ↓v22_30, ↓v22_31, ↓v22_34, ↓v22_37, ↓v22_40, ↓qI_c, ↓qL_c, ↓qR_c, ↓pA_o, ↓qC_i, ↓qC_r, ↓oA_s, ↓gI_0, ↓gI_1, ↓gI_2, ↓gI_3, ↓gI_4, ↓gI_5, ↓gI_6, ↓gI_7, ↓gI_8, ↓gI_9, ↓gI_10, ↓gR_0, ↓gR_1, ↓gR_2, ↓gR_3, ↓gR_4, ↓gR_5, ↓gR_6, ↓gR_7, ↓gR_8, ↓gR_9, ↓gR_10, ↓sL_0, ↓sL_1, ↓sL_2, ↓sL_3, ↓sL_4, ↓sL_5, ↓sL_6, ↓sL_7, ↓sL_8, ↓sL_9, ↓sL_10, ↓rrf_si, ↓rrf_sg, ↓shO_si, ↓shO_sg, ↓shO_sr, ↓shA_si, ↓shA_sg, ↓shA_sr, ↓pAs_0, ↓pAs_i, ↓pAs_r, stk_n, stk_i, stk_l, stk_r, List.nil_append, List.cons_append, true_and, and_true, true_or, or_true, Nat.zero_add, dp_s, Nat.reduceAdd, le8_0, le8_1, le8_2, le8_3, le8_4, le8_5, le8_6, le8_7, le8_8, Classical.not_not, aT40, aT41, aT42, aT44, aT54, aT58, aT59, rT54, rT58, rT59, reduceIte, Nat.reduceEqDiff, qn_42, qn_44, true_implies, not_true_eq_false, not_false_eq_true, false_implies, nI_add, le_T, nT (show p + i < 2147483648 by omega), nT (show p + n < 2147483648 by omega), ↓shO_of hr.1, ↓rrf_of hr.2.2.1, ↓shO_of hr.2.2.2.2.1.1]
    refine ⟨fun c => by omega, fun _ => k25 hr.2.2.2.2 (by omega) ⟨_, rfl, ?_⟩⟩
    have e1 : usN Q.2.2 C p (i + 1) = usB Q.2.2 (usN Q.2.2 C p i) (p + i) := rfl
    have ih1 := ih (i + 1)
    rw [e1] at ih1
    unfold usB at ih1
    show X (d + 2) 22 23 _ [.inr (.inr (adO (b + 7) Q.1 (wAt Q.2.2 (p + i))))] M k
    cases ho : wAt Q.2.2 (p + i) with
    | some kk =>
      rw [ho] at ih1
      have e : adO (b + 7) Q.1 (some kk) = some (b + 7 + 2 + 2 * Q.1 kk) := rfl
      rw [e]
      refine vc_X 30 _ _ _ _ _ _ _ ?_
      simp only [↓v22_0, ↓v22_1, ↓v22_2, ↓v22_5, ↓v22_6, ↓v22_7, ↓v22_8, ↓v22_9, ↓v22_10, ↓v22_11, ↓v22_12, ↓v22_15, ↓v22_16, ↓v22_19, ↓v22_20, ↓v22_23, ↓v22_26, ↓v22_27, ↓v22_30, ↓v22_31, ↓v22_34, ↓v22_37, ↓v22_40, ↓qI_c, ↓qL_c, ↓qR_c, ↓pA_o, ↓qC_i, ↓qC_r, ↓oA_s, ↓gI_0, ↓gI_1, ↓gI_2, ↓gI_3, ↓gI_4, ↓gI_5, ↓gI_6, ↓gI_7, ↓gI_8, ↓gI_9, ↓gI_10, ↓gR_0, ↓gR_1, ↓gR_2, ↓gR_3, ↓gR_4, ↓gR_5, ↓gR_6, ↓gR_7, ↓gR_8, ↓gR_9, ↓gR_10, ↓sL_0, ↓sL_1, ↓sL_2, ↓sL_3, ↓sL_4, ↓sL_5, ↓sL_6, ↓sL_7, ↓sL_8, ↓sL_9, ↓sL_10, ↓rrf_si, ↓rrf_sg, ↓shO_si, ↓shO_sg, ↓shO_sr, ↓shA_si, ↓shA_sg, ↓shA_sr, ↓pAs_0, ↓pAs_i, ↓pAs_r, stk_n, stk_i, stk_l, stk_r, List.nil_append, List.cons_append, true_and, and_true, true_or, or_true, Nat.zero_add, dp_s, Nat.reduceAdd, le8_0, le8_1, le8_2, le8_3, le8_4, le8_5, le8_6, le8_7, le8_8, Classical.not_not, aT40, aT41, aT42, aT44, aT54, aT58, aT59, rT54, rT58, rT59, reduceIte, Nat.reduceEqDiff, qn_42, qn_44, true_implies, not_true_eq_false, not_false_eq_true, false_implies, sn]
      refine vc_X 30 _ _ _ _ _ _ _ ?_
      simp only [↓v22_0, ↓v22_1, ↓v22_2, ↓v22_5, ↓v22_6, ↓v22_7, ↓v22_8, ↓v22_9, ↓v22_10, ↓v22_11, ↓v22_12, ↓v22_15, ↓v22_16, ↓v22_19, ↓v22_20, ↓v22_23, ↓v22_26, ↓v22_27, ↓v22_30, ↓v22_31, ↓v22_34, ↓v22_37, ↓v22_40, ↓qI_c, ↓qL_c, ↓qR_c, ↓pA_o, ↓qC_i, ↓qC_r, ↓oA_s, ↓gI_0, ↓gI_1, ↓gI_2, ↓gI_3, ↓gI_4, ↓gI_5, ↓gI_6, ↓gI_7, ↓gI_8, ↓gI_9, ↓gI_10, ↓gR_0, ↓gR_1, ↓gR_2, ↓gR_3, ↓gR_4, ↓gR_5, ↓gR_6, ↓gR_7, ↓gR_8, ↓gR_9, ↓gR_10, ↓sL_0, ↓sL_1, ↓sL_2, ↓sL_3, ↓sL_4, ↓sL_5, ↓sL_6, ↓sL_7, ↓sL_8, ↓sL_9, ↓sL_10, ↓rrf_si, ↓rrf_sg, ↓shO_si, ↓shO_sg, ↓shO_sr, ↓shA_si, ↓shA_sg, ↓shA_sr, ↓pAs_0, ↓pAs_i, ↓pAs_r, stk_n, stk_i, stk_l, stk_r, List.nil_append, List.cons_append, true_and, and_true, true_or, or_true, Nat.zero_add, dp_s, Nat.reduceAdd, le8_0, le8_1, le8_2, le8_3, le8_4, le8_5, le8_6, le8_7, le8_8, Classical.not_not, aT40, aT41, aT42, aT44, aT54, aT58, aT59, rT54, rT58, rT59, reduceIte, Nat.reduceEqDiff, qn_42, qn_44, true_implies, not_true_eq_false, not_false_eq_true, false_implies, nI_1]
      exact ih1 M (by omega) h hk
    | none =>
      rw [ho] at ih1
      have e : adO (b + 7) Q.1 none = none := rfl
      rw [e]
      have hc := h.2.2.2.1
      have hle := usN_le Q.2.2 C p i
      refine vc_X 30 _ _ _ _ _ _ _ ?_
      simp only [↓v22_0, ↓v22_1, ↓v22_2, ↓v22_5, ↓v22_6, ↓v22_7, ↓v22_8, ↓v22_9, ↓v22_10, ↓v22_11, ↓v22_12, ↓v22_15, ↓v22_16, ↓v22_19, ↓v22_20, ↓v22_23, ↓v22_26, ↓v22_27, ↓v22_30, ↓v22_31, ↓v22_34, ↓v22_37, ↓v22_40, ↓qI_c, ↓qL_c, ↓qR_c, ↓pA_o, ↓qC_i, ↓qC_r, ↓oA_s, ↓gI_0, ↓gI_1, ↓gI_2, ↓gI_3, ↓gI_4, ↓gI_5, ↓gI_6, ↓gI_7, ↓gI_8, ↓gI_9, ↓gI_10, ↓gR_0, ↓gR_1, ↓gR_2, ↓gR_3, ↓gR_4, ↓gR_5, ↓gR_6, ↓gR_7, ↓gR_8, ↓gR_9, ↓gR_10, ↓sL_0, ↓sL_1, ↓sL_2, ↓sL_3, ↓sL_4, ↓sL_5, ↓sL_6, ↓sL_7, ↓sL_8, ↓sL_9, ↓sL_10, ↓rrf_si, ↓rrf_sg, ↓shO_si, ↓shO_sg, ↓shO_sr, ↓shA_si, ↓shA_sg, ↓shA_sr, ↓pAs_0, ↓pAs_i, ↓pAs_r, stk_n, stk_i, stk_l, stk_r, List.nil_append, List.cons_append, true_and, and_true, true_or, or_true, Nat.zero_add, dp_s, Nat.reduceAdd, le8_0, le8_1, le8_2, le8_3, le8_4, le8_5, le8_6, le8_7, le8_8, Classical.not_not, aT40, aT41, aT42, aT44, aT54, aT58, aT59, rT54, rT58, rT59, reduceIte, Nat.reduceEqDiff, qn_42, qn_44, true_implies, not_true_eq_false, not_false_eq_true, false_implies, ↓shO_of hr.1, ↓rrf_of h.1.1.2.2.2.1, ↓shO_of hc.1.1.1]
      refine k30 hc.1 (by omega) (by omega) (fun M1 c1 o1 => ⟨rfl, ?_⟩)
      refine vc_X 30 _ _ _ _ _ _ _ ?_
      simp only [↓v22_0, ↓v22_1, ↓v22_2, ↓v22_5, ↓v22_6, ↓v22_7, ↓v22_8, ↓v22_9, ↓v22_10, ↓v22_11, ↓v22_12, ↓v22_15, ↓v22_16, ↓v22_19, ↓v22_20, ↓v22_23, ↓v22_26, ↓v22_27, ↓v22_30, ↓v22_31, ↓v22_34, ↓v22_37, ↓v22_40, ↓qI_c, ↓qL_c, ↓qR_c, ↓pA_o, ↓qC_i, ↓qC_r, ↓oA_s, ↓gI_0, ↓gI_1, ↓gI_2, ↓gI_3, ↓gI_4, ↓gI_5, ↓gI_6, ↓gI_7, ↓gI_8, ↓gI_9, ↓gI_10, ↓gR_0, ↓gR_1, ↓gR_2, ↓gR_3, ↓gR_4, ↓gR_5, ↓gR_6, ↓gR_7, ↓gR_8, ↓gR_9, ↓gR_10, ↓sL_0, ↓sL_1, ↓sL_2, ↓sL_3, ↓sL_4, ↓sL_5, ↓sL_6, ↓sL_7, ↓sL_8, ↓sL_9, ↓sL_10, ↓rrf_si, ↓rrf_sg, ↓shO_si, ↓shO_sg, ↓shO_sr, ↓shA_si, ↓shA_sg, ↓shA_sr, ↓pAs_0, ↓pAs_i, ↓pAs_r, stk_n, stk_i, stk_l, stk_r, List.nil_append, List.cons_append, true_and, and_true, true_or, or_true, Nat.zero_add, dp_s, Nat.reduceAdd, le8_0, le8_1, le8_2, le8_3, le8_4, le8_5, le8_6, le8_7, le8_8, Classical.not_not, aT40, aT41, aT42, aT44, aT54, aT58, aT59, rT54, rT58, rT59, reduceIte, Nat.reduceEqDiff, qn_42, qn_44, true_implies, not_true_eq_false, not_false_eq_true, false_implies, nI_1]
      have hcu : cuR (usN Q.2.2 C p i).1 (p + i) ≤ 1 := by unfold cuR; split <;> omega
      exact ih1 M1 (by omega) (h.upC c1 (by omega) (o1.of (fun x hx => by simpa using hx))) (fun M2 h2 o2 => hk M2 h2 (o1.trans o2 (fun _ h => h)))
theorem k22 {d : Nat} {M : Mm} {k : mQ} {b p : Nat} (h : CP M b D Q C L I T E F) (hw : okW Q.2.2) (hp : p < 128) (hC : C.2 + 100 < 50000000) (hk : ∀ M', CP M' b D Q (usN Q.2.2 C p (nbA D.1 Q.2.2 p)) L I T E F → On [b + 249, b + 250] M M' → k none M') : XC (d + 5) 22 [.inr (some b), .inl (nI p)] M k := by
  refine xc ?_
  show X (d + 4) 22 0 [some (.inr (some b)), some (.inl (nI p)), none, none] [] M k
  refine vc_X 30 _ _ _ _ _ _ _ ?_
  simp only [↓v22_0, ↓v22_1, ↓v22_2, ↓v22_5, ↓v22_6, ↓v22_7, ↓v22_8, ↓v22_9, ↓v22_10, ↓v22_11, ↓v22_12, ↓v22_15, ↓v22_16, ↓v22_19, ↓v22_20, ↓v22_23, ↓v22_26, ↓v22_27, ↓v22_30, ↓v22_31, ↓v22_34, ↓v22_37, ↓v22_40, ↓qI_c, ↓qL_c, ↓qR_c, ↓pA_o, ↓qC_i, ↓qC_r, ↓oA_s, ↓gI_0, ↓gI_1, ↓gI_2, ↓gI_3, ↓gI_4, ↓gI_5, ↓gI_6, ↓gI_7, ↓gI_8, ↓gI_9, ↓gI_10, ↓gR_0, ↓gR_1, ↓gR_2, ↓gR_3, ↓gR_4, ↓gR_5, ↓gR_6, ↓gR_7, ↓gR_8, ↓gR_9, ↓gR_10, ↓sL_0, ↓sL_1, ↓sL_2, ↓sL_3, ↓sL_4, ↓sL_5, ↓sL_6, ↓sL_7, ↓sL_8, ↓sL_9, ↓sL_10, ↓rrf_si, ↓rrf_sg, ↓shO_si, ↓shO_sg, ↓shO_sr, ↓shA_si, ↓shA_sg, ↓shA_sr, ↓pAs_0, ↓pAs_i, ↓pAs_r, stk_n, stk_i, stk_l, stk_r, List.nil_append, List.cons_append, true_and, and_true, true_or, or_true, Nat.zero_add, dp_s, Nat.reduceAdd, le8_0, le8_1, le8_2, le8_3, le8_4, le8_5, le8_6, le8_7, le8_8, Classical.not_not, aT40, aT41, aT42, aT44, aT54, aT58, aT59, rT54, rT58, rT59, reduceIte, Nat.reduceEqDiff, qn_42, qn_44, true_implies, not_true_eq_false, not_false_eq_true, false_implies, ↓shO_of h.1.1.1]
  refine k23 h.rd hw hp ⟨_, rfl, ?_⟩
  have hlt := bv_lt h.rd hw hp (show 3 < 16 by omega)
  refine vc_X 30 _ _ _ _ _ _ _ ?_
  simp only [↓v22_0, ↓v22_1, ↓v22_2, ↓v22_5, ↓v22_6, ↓v22_7, ↓v22_8, ↓v22_9, ↓v22_10, ↓v22_11, ↓v22_12, ↓v22_15, ↓v22_16, ↓v22_19, ↓v22_20, ↓v22_23, ↓v22_26, ↓v22_27, ↓v22_30, ↓v22_31, ↓v22_34, ↓v22_37, ↓v22_40, ↓qI_c, ↓qL_c, ↓qR_c, ↓pA_o, ↓qC_i, ↓qC_r, ↓oA_s, ↓gI_0, ↓gI_1, ↓gI_2, ↓gI_3, ↓gI_4, ↓gI_5, ↓gI_6, ↓gI_7, ↓gI_8, ↓gI_9, ↓gI_10, ↓gR_0, ↓gR_1, ↓gR_2, ↓gR_3, ↓gR_4, ↓gR_5, ↓gR_6, ↓gR_7, ↓gR_8, ↓gR_9, ↓gR_10, ↓sL_0, ↓sL_1, ↓sL_2, ↓sL_3, ↓sL_4, ↓sL_5, ↓sL_6, ↓sL_7, ↓sL_8, ↓sL_9, ↓sL_10, ↓rrf_si, ↓rrf_sg, ↓shO_si, ↓shO_sg, ↓shO_sr, ↓shA_si, ↓shA_sg, ↓shA_sr, ↓pAs_0, ↓pAs_i, ↓pAs_r, stk_n, stk_i, stk_l, stk_r, List.nil_append, List.cons_append, true_and, and_true, true_or, or_true, Nat.zero_add, dp_s, Nat.reduceAdd, le8_0, le8_1, le8_2, le8_3, le8_4, le8_5, le8_6, le8_7, le8_8, Classical.not_not, aT40, aT41, aT42, aT44, aT54, aT58, aT59, rT54, rT58, rT59, reduceIte, Nat.reduceEqDiff, qn_42, qn_44, true_implies, not_true_eq_false, not_false_eq_true, false_implies]
  exact lop22 hp (by unfold nbA lnA; omega) hC (nbA D.1 Q.2.2 p) 0 M (by omega) h hk
end
/-- what is in the chunk at a place -/
def ctA (dk : Nat → Nat) (ws : List WT) (p n : Nat) : List Nat := (List.range n).map (fun k => bv dk ws (p + (k + 6) / 16) ((k + 6) % 16))
theorem ctA_s (dk : Nat → Nat) (ws : List WT) (p n : Nat) : ctA dk ws p (n + 1) = ctA dk ws p n ++ [bv dk ws (p + (n + 6) / 16) ((n + 6) % 16)] := by
  unfold ctA
  rw [List.range_succ, List.map_append]
  rfl
theorem ctA_len (dk : Nat → Nat) (ws : List WT) (p n : Nat) : (ctA dk ws p n).length = n := by simp [ctA]
/-- of the first n bytes of a chunk with its head, how many are in it -/
theorem lop31b {d : Nat} {k : mQ} {b p n bb a c : Nat} {dk : Nat → Nat} {Q : QT} {z5 : Option mL} (hw : okW Q.2.2) (hp : p + bb < 128) (hn : n ≤ 255) (hbb : 16 * bb < 6 + n) (ha : b + 249 ≤ a) (hc : b + 249 ≤ c) (hz : z5 = some (.inr (adO (b + 7) Q.1 (wAt Q.2.2 (p + bb))))) : ∀ (m i : Nat) (M : Mm) (z7 : Option mL), i + m = 16 → RD M b dk Q → BC M a c 255 ((ctA dk Q.2.2 p (min (16 * bb + i) (6 + n) - 6)).map nI) → (∀ (M' : Mm) (z : Option mL), BC M' a c 255 ((ctA dk Q.2.2 p (min (16 * bb + 16) (6 + n) - 6)).map nI) → On [a, c] M M' → X (d + 2) 31 16 [some (.inr (some b)), some (.inl (nI p)), some (.inr (some a)), some (.inl (nI (6 + n))), some (.inl (nI (bb + 1))), z5, some (.inl (nI 16)), z] [] M' k) →
    X (d + 2) 31 41 [some (.inr (some b)), some (.inl (nI p)), some (.inr (some a)), some (.inl (nI (6 + n))), some (.inl (nI bb)), z5, some (.inl (nI i)), z7] [] M k := by
  intro m
  induction m with
  | zero =>
    intro i M z7 hi h hb hk
    have e : i = 16 := by omega
    subst e
    refine vc_X 30 _ _ _ _ _ _ _ ?_
    simp only [↓v31_0, ↓v31_1, ↓v31_4, ↓v31_6, ↓v31_7, ↓v31_8, ↓v31_11, ↓v31_12, ↓v31_13, ↓v31_14, ↓v31_16, ↓v31_18, ↓v31_20, ↓v31_21, ↓v31_22, ↓v31_25, ↓v31_26, ↓v31_29, ↓v31_30, ↓v31_32, ↓v31_33, ↓v31_36, ↓v31_38, ↓v31_39, ↓v31_41, ↓v31_43, ↓v31_45, ↓v31_48, ↓v31_50, ↓v31_52, ↓v31_53, ↓v31_55, ↓v31_56, ↓v31_58, ↓v31_60, ↓v31_62, ↓v31_65, ↓v31_67, ↓v31_68, ↓v31_71, ↓v31_72, ↓v31_74, ↓v31_77, ↓v31_79, ↓v31_81, ↓v31_84, ↓v31_87, ↓v31_88, ↓v31_91, ↓v31_92, ↓v31_94, ↓v31_95, ↓v31_97, ↓v31_100, ↓v31_103, ↓v31_106, ↓v31_109, ↓v31_112, ↓v31_115, ↓qI_c, ↓qL_c, ↓qR_c, ↓pA_o, ↓qC_i, ↓qC_r, ↓oA_s, ↓gI_0, ↓gI_1, ↓gI_2, ↓gI_3, ↓gI_4, ↓gI_5, ↓gI_6, ↓gI_7, ↓gI_8, ↓gI_9, ↓gI_10, ↓gR_0, ↓gR_1, ↓gR_2, ↓gR_3, ↓gR_4, ↓gR_5, ↓gR_6, ↓gR_7, ↓gR_8, ↓gR_9, ↓gR_10, ↓sL_0, ↓sL_1, ↓sL_2, ↓sL_3, ↓sL_4, ↓sL_5, ↓sL_6, ↓sL_7, ↓sL_8, ↓sL_9, ↓sL_10, ↓rrf_si, ↓rrf_sg, ↓shO_si, ↓shO_sg, ↓shO_sr, ↓shA_si, ↓shA_sg, ↓shA_sr, ↓pAs_0, ↓pAs_i, ↓pAs_r, stk_n, stk_i, stk_l, stk_r, List.nil_append, List.cons_append, true_and, and_true, true_or, or_true, Nat.zero_add, dp_s, Nat.reduceAdd, le8_0, le8_1, le8_2, le8_3, le8_4, le8_5, le8_6, le8_7, le8_8, Classical.not_not, aT40, aT41, aT42, aT44, aT54, aT58, aT59, rT54, rT58, rT59, reduceIte, Nat.reduceEqDiff, qn_42, qn_44, true_implies, not_true_eq_false, not_false_eq_true, false_implies, le_T, T_16, nT (show 16 < 2147483648 by omega), nI_1]
    exact ⟨fun _ => hk M _ hb On.rf_, fun c => absurd (by decide) c⟩
  | succ m ih =>
    intro i M z7 hi h hb hk
    have e3 : nI bb * 16 + nI i = nI (16 * bb + i) := by rw [n_16, pk_mul, nI_add]; congr 1; omega
    have next : ∀ M' z, RD M' b dk Q → BC M' a c 255 ((ctA dk Q.2.2 p (min (16 * bb + (i + 1)) (6 + n) - 6)).map nI) → On [a, c] M M' → X (d + 2) 31 103 [some (.inr (some b)), some (.inl (nI p)), some (.inr (some a)), some (.inl (nI (6 + n))), some (.inl (nI bb)), z5, some (.inl (nI i)), z] [] M' k := by
      intro M' z h' hb' o
      refine vc_X 30 _ _ _ _ _ _ _ ?_
      simp only [↓v31_0, ↓v31_1, ↓v31_4, ↓v31_6, ↓v31_7, ↓v31_8, ↓v31_11, ↓v31_12, ↓v31_13, ↓v31_14, ↓v31_16, ↓v31_18, ↓v31_20, ↓v31_21, ↓v31_22, ↓v31_25, ↓v31_26, ↓v31_29, ↓v31_30, ↓v31_32, ↓v31_33, ↓v31_36, ↓v31_38, ↓v31_39, ↓v31_41, ↓v31_43, ↓v31_45, ↓v31_48, ↓v31_50, ↓v31_52, ↓v31_53, ↓v31_55, ↓v31_56, ↓v31_58, ↓v31_60, ↓v31_62, ↓v31_65, ↓v31_67, ↓v31_68, ↓v31_71, ↓v31_72, ↓v31_74, ↓v31_77, ↓v31_79, ↓v31_81, ↓v31_84, ↓v31_87, ↓v31_88, ↓v31_91, ↓v31_92, ↓v31_94, ↓v31_95, ↓v31_97, ↓v31_100, ↓v31_103, ↓v31_106, ↓v31_109, ↓v31_112, ↓v31_115, ↓qI_c, ↓qL_c, ↓qR_c, ↓pA_o, ↓qC_i, ↓qC_r, ↓oA_s, ↓gI_0, ↓gI_1, ↓gI_2, ↓gI_3, ↓gI_4, ↓gI_5, ↓gI_6, ↓gI_7, ↓gI_8, ↓gI_9, ↓gI_10, ↓gR_0, ↓gR_1, ↓gR_2, ↓gR_3, ↓gR_4, ↓gR_5, ↓gR_6, ↓gR_7, ↓gR_8, ↓gR_9, ↓gR_10, ↓sL_0, ↓sL_1, ↓sL_2, ↓sL_3, ↓sL_4, ↓sL_5, ↓sL_6, ↓sL_7, ↓sL_8, ↓sL_9, ↓sL_10, ↓rrf_si, ↓rrf_sg, ↓shO_si, ↓shO_sg, ↓shO_sr, ↓shA_si, ↓shA_sg, ↓shA_sr, ↓pAs_0, ↓pAs_i, ↓pAs_r, stk_n, stk_i, stk_l, stk_r, List.nil_append, List.cons_append, true_and, and_true, true_or, or_true, Nat.zero_add, dp_s, Nat.reduceAdd, le8_0, le8_1, le8_2, le8_3, le8_4, le8_5, le8_6, le8_7, le8_8, Classical.not_not, aT40, aT41, aT42, aT44, aT54, aT58, aT59, rT54, rT58, rT59, reduceIte, Nat.reduceEqDiff, qn_42, qn_44, true_implies, not_true_eq_false, not_false_eq_true, false_implies, nI_1]
      exact ih (i + 1) M' _ (by omega) h' hb' (fun M2 z2 b2 o2 => hk M2 z2 b2 (o.trans o2 (fun _ x => x)))
    have hlt := bv_lt h hw hp (show i < 16 by omega)
    have tail : ∀ z : Option mL, 6 ≤ 16 * bb + i → 16 * bb + i < 6 + n → X (d + 2) 31 100 [some (.inr (some b)), some (.inl (nI p)), some (.inr (some a)), some (.inl (nI (6 + n))), some (.inl (nI bb)), z5, some (.inl (nI i)), z] [.inl (nI (bv dk Q.2.2 (p + bb) i)), .inr (.inr (some a))] M k := by
      intro z c1 c2
      refine vc_X 30 _ _ _ _ _ _ _ ?_
      simp only [↓v31_0, ↓v31_1, ↓v31_4, ↓v31_6, ↓v31_7, ↓v31_8, ↓v31_11, ↓v31_12, ↓v31_13, ↓v31_14, ↓v31_16, ↓v31_18, ↓v31_20, ↓v31_21, ↓v31_22, ↓v31_25, ↓v31_26, ↓v31_29, ↓v31_30, ↓v31_32, ↓v31_33, ↓v31_36, ↓v31_38, ↓v31_39, ↓v31_41, ↓v31_43, ↓v31_45, ↓v31_48, ↓v31_50, ↓v31_52, ↓v31_53, ↓v31_55, ↓v31_56, ↓v31_58, ↓v31_60, ↓v31_62, ↓v31_65, ↓v31_67, ↓v31_68, ↓v31_71, ↓v31_72, ↓v31_74, ↓v31_77, ↓v31_79, ↓v31_81, ↓v31_84, ↓v31_87, ↓v31_88, ↓v31_91, ↓v31_92, ↓v31_94, ↓v31_95, ↓v31_97, ↓v31_100, ↓v31_103, ↓v31_106, ↓v31_109, ↓v31_112, ↓v31_115, ↓qI_c, ↓qL_c, ↓qR_c, ↓pA_o, ↓qC_i, ↓qC_r, ↓oA_s, ↓gI_0, ↓gI_1, ↓gI_2, ↓gI_3, ↓gI_4, ↓gI_5, ↓gI_6, ↓gI_7, ↓gI_8, ↓gI_9, ↓gI_10, ↓gR_0, ↓gR_1, ↓gR_2, ↓gR_3, ↓gR_4, ↓gR_5, ↓gR_6, ↓gR_7, ↓gR_8, ↓gR_9, ↓gR_10, ↓sL_0, ↓sL_1, ↓sL_2, ↓sL_3, ↓sL_4, ↓sL_5, ↓sL_6, ↓sL_7, ↓sL_8, ↓sL_9, ↓sL_10, ↓rrf_si, ↓rrf_sg, ↓shO_si, ↓shO_sg, ↓shO_sr, ↓shA_si, ↓shA_sg, ↓shA_sr, ↓pAs_0, ↓pAs_i, ↓pAs_r, stk_n, stk_i, stk_l, stk_r, List.nil_append, List.cons_append, true_and, and_true, true_or, or_true, Nat.zero_add, dp_s, Nat.reduceAdd, le8_0, le8_1, le8_2, le8_3, le8_4, le8_5, le8_6, le8_7, le8_8, Classical.not_not, aT40, aT41, aT42, aT44, aT54, aT58, aT59, rT54, rT58, rT59, reduceIte, Nat.reduceEqDiff, qn_42, qn_44, true_implies, not_true_eq_false, not_false_eq_true, false_implies, ↓shO_of hb.1.1]
      refine k33 hb (by rw [List.length_map, ctA_len]; omega) (fun M1 b1 o1 => ⟨rfl, ?_⟩)
      refine next M1 _ (h.keep o1 (by simp [ha, hc])) ?_ o1
      rw [a255 hlt] at b1
      rw [show min (16 * bb + (i + 1)) (6 + n) - 6 = (min (16 * bb + i) (6 + n) - 6) + 1 by omega, ctA_s, List.map_append]
      rw [show (min (16 * bb + i) (6 + n) - 6 + 6) / 16 = bb by omega, show (min (16 * bb + i) (6 + n) - 6 + 6) % 16 = i by omega]
      exact b1
    have stay : ¬ (6 ≤ 16 * bb + i ∧ 16 * bb + i < 6 + n) → BC M a c 255 ((ctA dk Q.2.2 p (min (16 * bb + (i + 1)) (6 + n) - 6)).map nI) := by
      intro c
      rw [show min (16 * bb + (i + 1)) (6 + n) - 6 = min (16 * bb + i) (6 + n) - 6 by omega]
      exact hb
    obtain ⟨h1, h2, h3, h4, h5⟩ := id h
    subst hz
    cases ho : wAt Q.2.2 (p + bb) with
    | none =>
      have e : adO (b + 7) Q.1 none = none := rfl
      rw [ho, e] at next tail
      rw [e]
      refine vc_X 40 _ _ _ _ _ _ _ ?_
      simp only [↓v31_0, ↓v31_1, ↓v31_4, ↓v31_6, ↓v31_7, ↓v31_8, ↓v31_11, ↓v31_12, ↓v31_13, ↓v31_14, ↓v31_16, ↓v31_18, ↓v31_20, ↓v31_21, ↓v31_22, ↓v31_25, ↓v31_26, ↓v31_29, ↓v31_30, ↓v31_32, ↓v31_33, ↓v31_36, ↓v31_38, ↓v31_39, ↓v31_41, ↓v31_43, ↓v31_45, ↓v31_48, ↓v31_50, ↓v31_52, ↓v31_53, ↓v31_55, ↓v31_56, ↓v31_58, ↓v31_60, ↓v31_62, ↓v31_65, ↓v31_67, ↓v31_68, ↓v31_71, ↓v31_72, ↓v31_74, ↓v31_77, ↓v31_79, ↓v31_81, ↓v31_84, ↓v31_87, ↓v31_88, ↓v31_91, ↓v31_92, ↓v31_94, ↓v31_95, ↓v31_97, ↓v31_100, ↓v31_103, ↓v31_106, ↓v31_109, ↓v31_112, ↓v31_115, ↓qI_c, ↓qL_c, ↓qR_c, ↓pA_o, ↓qC_i, ↓qC_r, ↓oA_s, ↓gI_0, ↓gI_1, ↓gI_2, ↓gI_3, ↓gI_4, ↓gI_5, ↓gI_6, ↓gI_7, ↓gI_8, ↓gI_9, ↓gI_10, ↓gR_0, ↓gR_1, ↓gR_2, ↓gR_3, ↓gR_4, ↓gR_5, ↓gR_6, ↓gR_7, ↓gR_8, ↓gR_9, ↓gR_10, ↓sL_0, ↓sL_1, ↓sL_2, ↓sL_3, ↓sL_4, ↓sL_5, ↓sL_6, ↓sL_7, ↓sL_8, ↓sL_9, ↓sL_10, ↓rrf_si, ↓rrf_sg, ↓shO_si, ↓shO_sg, ↓shO_sr, ↓shA_si, ↓shA_sg, ↓shA_sr, ↓pAs_0, ↓pAs_i, ↓pAs_r, stk_n, stk_i, stk_l, stk_r, List.nil_append, List.cons_append, true_and, and_true, true_or, or_true, Nat.zero_add, dp_s, Nat.reduceAdd, le8_0, le8_1, le8_2, le8_3, le8_4, le8_5, le8_6, le8_7, le8_8, Classical.not_not, aT40, aT41, aT42, aT44, aT54, aT58, aT59, rT54, rT58, rT59, reduceIte, Nat.reduceEqDiff, qn_42, qn_44, true_implies, not_true_eq_false, not_false_eq_true, false_implies, le_T, lt_T, T_16, T_6, nT (show i < 2147483648 by omega), e3, nT (show 16 * bb + i < 2147483648 by omega), nT (show 6 + n < 2147483648 by omega), ↓shO_of h1, ↓rrf_of h2, ↓shO_of h4.1.1, nI_add]
      refine ⟨fun c => by omega, fun _ => ⟨fun c => next M _ h (stay (by omega)) On.rf_, fun c => ⟨fun c2 => next M _ h (stay (by omega)) On.rf_, fun c2 => ?_⟩⟩⟩
      refine k28 h4 (fun b' j hb' hj e1 e2 => ⟨_, rfl, ?_⟩) (fun c => absurd ⟨inB_n hp (by omega), inB_n (show i < 16 by omega) (by omega)⟩ c)
      rw [nI_eq (by omega) (by omega)] at e1 e2
      subst e1
      subst e2
      have e4 : bv dk Q.2.2 (p + bb) i = dk (16 * (p + bb) + i) := by unfold bv; rw [ho]; rfl
      rw [← e4]
      exact tail _ (by omega) (by omega)
    | some kk =>
      obtain ⟨x, hx, ht⟩ := wAt_spec ho
      obtain ⟨-, w⟩ := h5.2.2.2.2.2 kk x hx
      have e : adO (b + 7) Q.1 (some kk) = some (b + 7 + 2 + 2 * Q.1 kk) := rfl
      rw [ho, e] at next tail
      rw [e]
      refine vc_X 40 _ _ _ _ _ _ _ ?_
      simp only [↓v31_0, ↓v31_1, ↓v31_4, ↓v31_6, ↓v31_7, ↓v31_8, ↓v31_11, ↓v31_12, ↓v31_13, ↓v31_14, ↓v31_16, ↓v31_18, ↓v31_20, ↓v31_21, ↓v31_22, ↓v31_25, ↓v31_26, ↓v31_29, ↓v31_30, ↓v31_32, ↓v31_33, ↓v31_36, ↓v31_38, ↓v31_39, ↓v31_41, ↓v31_43, ↓v31_45, ↓v31_48, ↓v31_50, ↓v31_52, ↓v31_53, ↓v31_55, ↓v31_56, ↓v31_58, ↓v31_60, ↓v31_62, ↓v31_65, ↓v31_67, ↓v31_68, ↓v31_71, ↓v31_72, ↓v31_74, ↓v31_77, ↓v31_79, ↓v31_81, ↓v31_84, ↓v31_87, ↓v31_88, ↓v31_91, ↓v31_92, ↓v31_94, ↓v31_95, ↓v31_97, ↓v31_100, ↓v31_103, ↓v31_106, ↓v31_109, ↓v31_112, ↓v31_115, ↓qI_c, ↓qL_c, ↓qR_c, ↓pA_o, ↓qC_i, ↓qC_r, ↓oA_s, ↓gI_0, ↓gI_1, ↓gI_2, ↓gI_3, ↓gI_4, ↓gI_5, ↓gI_6, ↓gI_7, ↓gI_8, ↓gI_9, ↓gI_10, ↓gR_0, ↓gR_1, ↓gR_2, ↓gR_3, ↓gR_4, ↓gR_5, ↓gR_6, ↓gR_7, ↓gR_8, ↓gR_9, ↓gR_10, ↓sL_0, ↓sL_1, ↓sL_2, ↓sL_3, ↓sL_4, ↓sL_5, ↓sL_6, ↓sL_7, ↓sL_8, ↓sL_9, ↓sL_10, ↓rrf_si, ↓rrf_sg, ↓shO_si, ↓shO_sg, ↓shO_sr, ↓shA_si, ↓shA_sg, ↓shA_sr, ↓pAs_0, ↓pAs_i, ↓pAs_r, stk_n, stk_i, stk_l, stk_r, List.nil_append, List.cons_append, true_and, and_true, true_or, or_true, Nat.zero_add, dp_s, Nat.reduceAdd, le8_0, le8_1, le8_2, le8_3, le8_4, le8_5, le8_6, le8_7, le8_8, Classical.not_not, aT40, aT41, aT42, aT44, aT54, aT58, aT59, rT54, rT58, rT59, reduceIte, Nat.reduceEqDiff, qn_42, qn_44, true_implies, not_true_eq_false, not_false_eq_true, false_implies, le_T, lt_T, T_16, T_6, nT (show i < 2147483648 by omega), e3, nT (show 16 * bb + i < 2147483648 by omega), nT (show 6 + n < 2147483648 by omega), ↓shO_of h1, sn, ↓shO_of w.1.1, nI_add]
      refine ⟨fun c => by omega, fun _ => ⟨fun c => next M _ h (stay (by omega)) On.rf_, fun c => ⟨fun c2 => next M _ h (stay (by omega)) On.rf_, fun c2 => ?_⟩⟩⟩
      refine k27 w (fun j hj e1 => ⟨_, rfl, ?_⟩) (fun c => absurd (inB_n (show i < 16 by omega) (by omega)) c)
      rw [nI_eq (by omega) (by omega)] at e1
      subst e1
      have e4 : bv dk Q.2.2 (p + bb) i = byN x i := by unfold bv; rw [ho]; unfold bvW; simp only [hx]
      rw [(hw kk x hx (by omega) i hj).1, ← e4]
      refine vc_X 30 _ _ _ _ _ _ _ ?_
      simp only [↓v31_0, ↓v31_1, ↓v31_4, ↓v31_6, ↓v31_7, ↓v31_8, ↓v31_11, ↓v31_12, ↓v31_13, ↓v31_14, ↓v31_16, ↓v31_18, ↓v31_20, ↓v31_21, ↓v31_22, ↓v31_25, ↓v31_26, ↓v31_29, ↓v31_30, ↓v31_32, ↓v31_33, ↓v31_36, ↓v31_38, ↓v31_39, ↓v31_41, ↓v31_43, ↓v31_45, ↓v31_48, ↓v31_50, ↓v31_52, ↓v31_53, ↓v31_55, ↓v31_56, ↓v31_58, ↓v31_60, ↓v31_62, ↓v31_65, ↓v31_67, ↓v31_68, ↓v31_71, ↓v31_72, ↓v31_74, ↓v31_77, ↓v31_79, ↓v31_81, ↓v31_84, ↓v31_87, ↓v31_88, ↓v31_91, ↓v31_92, ↓v31_94, ↓v31_95, ↓v31_97, ↓v31_100, ↓v31_103, ↓v31_106, ↓v31_109, ↓v31_112, ↓v31_115, ↓qI_c, ↓qL_c, ↓qR_c, ↓pA_o, ↓qC_i, ↓qC_r, ↓oA_s, ↓gI_0, ↓gI_1, ↓gI_2, ↓gI_3, ↓gI_4, ↓gI_5, ↓gI_6, ↓gI_7, ↓gI_8, ↓gI_9, ↓gI_10, ↓gR_0, ↓gR_1, ↓gR_2, ↓gR_3, ↓gR_4, ↓gR_5, ↓gR_6, ↓gR_7, ↓gR_8, ↓gR_9, ↓gR_10, ↓sL_0, ↓sL_1, ↓sL_2, ↓sL_3, ↓sL_4, ↓sL_5, ↓sL_6, ↓sL_7, ↓sL_8, ↓sL_9, ↓sL_10, ↓rrf_si, ↓rrf_sg, ↓shO_si, ↓shO_sg, ↓shO_sr, ↓shA_si, ↓shA_sg, ↓shA_sr, ↓pAs_0, ↓pAs_i, ↓pAs_r, stk_n, stk_i, stk_l, stk_r, List.nil_append, List.cons_append, true_and, and_true, true_or, or_true, Nat.zero_add, dp_s, Nat.reduceAdd, le8_0, le8_1, le8_2, le8_3, le8_4, le8_5, le8_6, le8_7, le8_8, Classical.not_not, aT40, aT41, aT42, aT44, aT54, aT58, aT59, rT54, rT58, rT59, reduceIte, Nat.reduceEqDiff, qn_42, qn_44, true_implies, not_true_eq_false, not_false_eq_true, false_implies]
      exact tail _ (by omega) (by omega)
theorem lop31 {d : Nat} {k : mQ} {b p n a c : Nat} {dk : Nat → Nat} {Q : QT} (hw : okW Q.2.2) (hp : p + (n + 5) / 16 < 128) (hn : n ≤ 255) (ha : b + 249 ≤ a) (hc : b + 249 ≤ c) : ∀ (m bb : Nat) (M : Mm) (z5 z6 z7 : Option mL), bb + m = (n + 21) / 16 → RD M b dk Q → BC M a c 255 ((ctA dk Q.2.2 p (min (16 * bb) (6 + n) - 6)).map nI) → (∀ (M' : Mm), BC M' a c 255 ((ctA dk Q.2.2 p n).map nI) → On [a, c] M M' → k none M') →
    X (d + 2) 31 16 [some (.inr (some b)), some (.inl (nI p)), some (.inr (some a)), some (.inl (nI (6 + n))), some (.inl (nI bb)), z5, z6, z7] [] M k := by
  intro m
  induction m with
  | zero =>
    intro bb M z5 z6 z7 hi h hb hk
    have e3 : nI bb * 16 = nI (16 * bb) := by rw [n_16, pk_mul]; congr 1; omega
    refine vc_X 30 _ _ _ _ _ _ _ ?_
    simp only [↓v31_0, ↓v31_1, ↓v31_4, ↓v31_6, ↓v31_7, ↓v31_8, ↓v31_11, ↓v31_12, ↓v31_13, ↓v31_14, ↓v31_16, ↓v31_18, ↓v31_20, ↓v31_21, ↓v31_22, ↓v31_25, ↓v31_26, ↓v31_29, ↓v31_30, ↓v31_32, ↓v31_33, ↓v31_36, ↓v31_38, ↓v31_39, ↓v31_41, ↓v31_43, ↓v31_45, ↓v31_48, ↓v31_50, ↓v31_52, ↓v31_53, ↓v31_55, ↓v31_56, ↓v31_58, ↓v31_60, ↓v31_62, ↓v31_65, ↓v31_67, ↓v31_68, ↓v31_71, ↓v31_72, ↓v31_74, ↓v31_77, ↓v31_79, ↓v31_81, ↓v31_84, ↓v31_87, ↓v31_88, ↓v31_91, ↓v31_92, ↓v31_94, ↓v31_95, ↓v31_97, ↓v31_100, ↓v31_103, ↓v31_106, ↓v31_109, ↓v31_112, ↓v31_115, ↓qI_c, ↓qL_c, ↓qR_c, ↓pA_o, ↓qC_i, ↓qC_r, ↓oA_s, ↓gI_0, ↓gI_1, ↓gI_2, ↓gI_3, ↓gI_4, ↓gI_5, ↓gI_6, ↓gI_7, ↓gI_8, ↓gI_9, ↓gI_10, ↓gR_0, ↓gR_1, ↓gR_2, ↓gR_3, ↓gR_4, ↓gR_5, ↓gR_6, ↓gR_7, ↓gR_8, ↓gR_9, ↓gR_10, ↓sL_0, ↓sL_1, ↓sL_2, ↓sL_3, ↓sL_4, ↓sL_5, ↓sL_6, ↓sL_7, ↓sL_8, ↓sL_9, ↓sL_10, ↓rrf_si, ↓rrf_sg, ↓shO_si, ↓shO_sg, ↓shO_sr, ↓shA_si, ↓shA_sg, ↓shA_sr, ↓pAs_0, ↓pAs_i, ↓pAs_r, stk_n, stk_i, stk_l, stk_r, List.nil_append, List.cons_append, true_and, and_true, true_or, or_true, Nat.zero_add, dp_s, Nat.reduceAdd, le8_0, le8_1, le8_2, le8_3, le8_4, le8_5, le8_6, le8_7, le8_8, Classical.not_not, aT40, aT41, aT42, aT44, aT54, aT58, aT59, rT54, rT58, rT59, reduceIte, Nat.reduceEqDiff, qn_42, qn_44, true_implies, not_true_eq_false, not_false_eq_true, false_implies, le_T, e3, nT (show 16 * bb < 2147483648 by omega), nT (show 6 + n < 2147483648 by omega)]
    refine ⟨fun _ => hk M ?_ On.rf_, fun c => by omega⟩
    rw [show min (16 * bb) (6 + n) - 6 = n by omega] at hb
    exact hb
  | succ m ih =>
    intro bb M z5 z6 z7 hi h hb hk
    have e3 : nI bb * 16 = nI (16 * bb) := by rw [n_16, pk_mul]; congr 1; omega
    refine vc_X 30 _ _ _ _ _ _ _ ?_
    simp only [↓v31_0, ↓v31_1, ↓v31_4, ↓v31_6, ↓v31_7, ↓v31_8, ↓v31_11, ↓v31_12, ↓v31_13, ↓v31_14, ↓v31_16, ↓v31_18, ↓v31_20, ↓v31_21, ↓v31_22, ↓v31_25, ↓v31_26, ↓v31_29, ↓v31_30, ↓v31_32, ↓v31_33, ↓v31_36, ↓v31_38, ↓v31_39, ↓v31_41, ↓v31_43, ↓v31_45, ↓v31_48, ↓v31_50, ↓v31_52, ↓v31_53, ↓v31_55, ↓v31_56, ↓v31_58, ↓v31_60, ↓v31_62, ↓v31_65, ↓v31_67, ↓v31_68, ↓v31_71, ↓v31_72, ↓v31_74, ↓v31_77, ↓v31_79, ↓v31_81, ↓v31_84, ↓v31_87, ↓v31_88, ↓v31_91, ↓v31_92, ↓v31_94, ↓v31_95, ↓v31_97, ↓v31_100, ↓v31_103, ↓v31_106, ↓v31_109, ↓v31_112, ↓v31_115, ↓qI_c, ↓qL_c, ↓qR_c, ↓pA_o, ↓qC_i, ↓qC_r, ↓oA_s, ↓gI_0, ↓gI_1, ↓gI_2, ↓gI_3, ↓gI_4, ↓gI_5, ↓gI_6, ↓gI_7, ↓gI_8, ↓gI_9, ↓gI_10, ↓gR_0, ↓gR_1, ↓gR_2, ↓gR_3, ↓gR_4, ↓gR_5, ↓gR_6, ↓gR_7, ↓gR_8, ↓gR_9, ↓gR_10, ↓sL_0, ↓sL_1, ↓sL_2, ↓sL_3, ↓sL_4, ↓sL_5, ↓sL_6, ↓sL_7, ↓sL_8, ↓sL_9, ↓sL_10, ↓rrf_si, ↓rrf_sg, ↓shO_si, ↓shO_sg, ↓shO_sr, ↓shA_si, ↓shA_sg, ↓shA_sr, ↓pAs_0, ↓pAs_i, ↓pAs_r, stk_n, stk_i, stk_l, stk_r, List.nil_append, List.cons_append, true_and, and_true, true_or, or_true, Nat.zero_add, dp_s, Nat.reduceAdd, le8_0, le8_1, le8_2, le8_3, le8_4, le8_5, le8_6, le8_7, le8_8, Classical.not_not, aT40, aT41, aT42, aT44, aT54, aT58, aT59, rT54, rT58, rT59, reduceIte, Nat.reduceEqDiff, qn_42, qn_44, true_implies, not_true_eq_false, not_false_eq_true, false_implies, le_T, e3, nT (show 16 * bb < 2147483648 by omega), nT (show 6 + n < 2147483648 by omega), ↓shO_of h.1, ↓rrf_of h.2.2.1, ↓shO_of h.2.2.2.2.1.1, nI_add]
    refine ⟨fun c => by omega, fun _ => k25 h.2.2.2.2 (by omega) ⟨_, rfl, ?_⟩⟩
    refine vc_X 30 _ _ _ _ _ _ _ ?_
    simp only [↓v31_0, ↓v31_1, ↓v31_4, ↓v31_6, ↓v31_7, ↓v31_8, ↓v31_11, ↓v31_12, ↓v31_13, ↓v31_14, ↓v31_16, ↓v31_18, ↓v31_20, ↓v31_21, ↓v31_22, ↓v31_25, ↓v31_26, ↓v31_29, ↓v31_30, ↓v31_32, ↓v31_33, ↓v31_36, ↓v31_38, ↓v31_39, ↓v31_41, ↓v31_43, ↓v31_45, ↓v31_48, ↓v31_50, ↓v31_52, ↓v31_53, ↓v31_55, ↓v31_56, ↓v31_58, ↓v31_60, ↓v31_62, ↓v31_65, ↓v31_67, ↓v31_68, ↓v31_71, ↓v31_72, ↓v31_74, ↓v31_77, ↓v31_79, ↓v31_81, ↓v31_84, ↓v31_87, ↓v31_88, ↓v31_91, ↓v31_92, ↓v31_94, ↓v31_95, ↓v31_97, ↓v31_100, ↓v31_103, ↓v31_106, ↓v31_109, ↓v31_112, ↓v31_115, ↓qI_c, ↓qL_c, ↓qR_c, ↓pA_o, ↓qC_i, ↓qC_r, ↓oA_s, ↓gI_0, ↓gI_1, ↓gI_2, ↓gI_3, ↓gI_4, ↓gI_5, ↓gI_6, ↓gI_7, ↓gI_8, ↓gI_9, ↓gI_10, ↓gR_0, ↓gR_1, ↓gR_2, ↓gR_3, ↓gR_4, ↓gR_5, ↓gR_6, ↓gR_7, ↓gR_8, ↓gR_9, ↓gR_10, ↓sL_0, ↓sL_1, ↓sL_2, ↓sL_3, ↓sL_4, ↓sL_5, ↓sL_6, ↓sL_7, ↓sL_8, ↓sL_9, ↓sL_10, ↓rrf_si, ↓rrf_sg, ↓shO_si, ↓shO_sg, ↓shO_sr, ↓shA_si, ↓shA_sg, ↓shA_sr, ↓pAs_0, ↓pAs_i, ↓pAs_r, stk_n, stk_i, stk_l, stk_r, List.nil_append, List.cons_append, true_and, and_true, true_or, or_true, Nat.zero_add, dp_s, Nat.reduceAdd, le8_0, le8_1, le8_2, le8_3, le8_4, le8_5, le8_6, le8_7, le8_8, Classical.not_not, aT40, aT41, aT42, aT44, aT54, aT58, aT59, rT54, rT58, rT59, reduceIte, Nat.reduceEqDiff, qn_42, qn_44, true_implies, not_true_eq_false, not_false_eq_true, false_implies]
    refine lop31b hw (by omega) hn (by omega) ha hc rfl 16 0 M _ (by omega) h hb (fun M1 z b1 o1 => ?_)
    exact ih (bb + 1) M1 _ _ _ (by omega) (h.keep o1 (by simp [ha, hc])) b1 (fun M2 b2 o2 => hk M2 b2 (o1.trans o2 (fun _ x => x)))
theorem k31 {d : Nat} {M : Mm} {k : mQ} {b p a c : Nat} {dk : Nat → Nat} {Q : QT} (h : RD M b dk Q) (hw : okW Q.2.2) (hB : By M a c 255) (hp : p < 128) (hp2 : p + (lnA dk Q.2.2 p + 5) / 16 < 128) (ha : b + 249 ≤ a) (hc : b + 249 ≤ c) (hk : ∀ (M' : Mm), BC M' a c 255 ((ctA dk Q.2.2 p (lnA dk Q.2.2 p)).map nI) → On [a, c] M M' → k none M') : XC (d + 4) 31 [.inr (some b), .inl (nI p), .inr (some a)] M k := by
  refine xc ?_
  show X (d + 3) 31 0 [some (.inr (some b)), some (.inl (nI p)), some (.inr (some a)), none, none, none, none, none] [] M k
  refine vc_X 30 _ _ _ _ _ _ _ ?_
  simp only [↓v31_0, ↓v31_1, ↓v31_4, ↓v31_6, ↓v31_7, ↓v31_8, ↓v31_11, ↓v31_12, ↓v31_13, ↓v31_14, ↓v31_16, ↓v31_18, ↓v31_20, ↓v31_21, ↓v31_22, ↓v31_25, ↓v31_26, ↓v31_29, ↓v31_30, ↓v31_32, ↓v31_33, ↓v31_36, ↓v31_38, ↓v31_39, ↓v31_41, ↓v31_43, ↓v31_45, ↓v31_48, ↓v31_50, ↓v31_52, ↓v31_53, ↓v31_55, ↓v31_56, ↓v31_58, ↓v31_60, ↓v31_62, ↓v31_65, ↓v31_67, ↓v31_68, ↓v31_71, ↓v31_72, ↓v31_74, ↓v31_77, ↓v31_79, ↓v31_81, ↓v31_84, ↓v31_87, ↓v31_88, ↓v31_91, ↓v31_92, ↓v31_94, ↓v31_95, ↓v31_97, ↓v31_100, ↓v31_103, ↓v31_106, ↓v31_109, ↓v31_112, ↓v31_115, ↓qI_c, ↓qL_c, ↓qR_c, ↓pA_o, ↓qC_i, ↓qC_r, ↓oA_s, ↓gI_0, ↓gI_1, ↓gI_2, ↓gI_3, ↓gI_4, ↓gI_5, ↓gI_6, ↓gI_7, ↓gI_8, ↓gI_9, ↓gI_10, ↓gR_0, ↓gR_1, ↓gR_2, ↓gR_3, ↓gR_4, ↓gR_5, ↓gR_6, ↓gR_7, ↓gR_8, ↓gR_9, ↓gR_10, ↓sL_0, ↓sL_1, ↓sL_2, ↓sL_3, ↓sL_4, ↓sL_5, ↓sL_6, ↓sL_7, ↓sL_8, ↓sL_9, ↓sL_10, ↓rrf_si, ↓rrf_sg, ↓shO_si, ↓shO_sg, ↓shO_sr, ↓shA_si, ↓shA_sg, ↓shA_sr, ↓pAs_0, ↓pAs_i, ↓pAs_r, stk_n, stk_i, stk_l, stk_r, List.nil_append, List.cons_append, true_and, and_true, true_or, or_true, Nat.zero_add, dp_s, Nat.reduceAdd, le8_0, le8_1, le8_2, le8_3, le8_4, le8_5, le8_6, le8_7, le8_8, Classical.not_not, aT40, aT41, aT42, aT44, aT54, aT58, aT59, rT54, rT58, rT59, reduceIte, Nat.reduceEqDiff, qn_42, qn_44, true_implies, not_true_eq_false, not_false_eq_true, false_implies, ↓shO_of hB.1]
  refine k32 hB (fun M1 b1 o1 => ⟨rfl, ?_⟩)
  have h1 := h.keep o1 (by simp [ha])
  refine vc_X 30 _ _ _ _ _ _ _ ?_
  simp only [↓v31_0, ↓v31_1, ↓v31_4, ↓v31_6, ↓v31_7, ↓v31_8, ↓v31_11, ↓v31_12, ↓v31_13, ↓v31_14, ↓v31_16, ↓v31_18, ↓v31_20, ↓v31_21, ↓v31_22, ↓v31_25, ↓v31_26, ↓v31_29, ↓v31_30, ↓v31_32, ↓v31_33, ↓v31_36, ↓v31_38, ↓v31_39, ↓v31_41, ↓v31_43, ↓v31_45, ↓v31_48, ↓v31_50, ↓v31_52, ↓v31_53, ↓v31_55, ↓v31_56, ↓v31_58, ↓v31_60, ↓v31_62, ↓v31_65, ↓v31_67, ↓v31_68, ↓v31_71, ↓v31_72, ↓v31_74, ↓v31_77, ↓v31_79, ↓v31_81, ↓v31_84, ↓v31_87, ↓v31_88, ↓v31_91, ↓v31_92, ↓v31_94, ↓v31_95, ↓v31_97, ↓v31_100, ↓v31_103, ↓v31_106, ↓v31_109, ↓v31_112, ↓v31_115, ↓qI_c, ↓qL_c, ↓qR_c, ↓pA_o, ↓qC_i, ↓qC_r, ↓oA_s, ↓gI_0, ↓gI_1, ↓gI_2, ↓gI_3, ↓gI_4, ↓gI_5, ↓gI_6, ↓gI_7, ↓gI_8, ↓gI_9, ↓gI_10, ↓gR_0, ↓gR_1, ↓gR_2, ↓gR_3, ↓gR_4, ↓gR_5, ↓gR_6, ↓gR_7, ↓gR_8, ↓gR_9, ↓gR_10, ↓sL_0, ↓sL_1, ↓sL_2, ↓sL_3, ↓sL_4, ↓sL_5, ↓sL_6, ↓sL_7, ↓sL_8, ↓sL_9, ↓sL_10, ↓rrf_si, ↓rrf_sg, ↓shO_si, ↓shO_sg, ↓shO_sr, ↓shA_si, ↓shA_sg, ↓shA_sr, ↓pAs_0, ↓pAs_i, ↓pAs_r, stk_n, stk_i, stk_l, stk_r, List.nil_append, List.cons_append, true_and, and_true, true_or, or_true, Nat.zero_add, dp_s, Nat.reduceAdd, le8_0, le8_1, le8_2, le8_3, le8_4, le8_5, le8_6, le8_7, le8_8, Classical.not_not, aT40, aT41, aT42, aT44, aT54, aT58, aT59, rT54, rT58, rT59, reduceIte, Nat.reduceEqDiff, qn_42, qn_44, true_implies, not_true_eq_false, not_false_eq_true, false_implies, ↓shO_of h1.1]
  refine k24 h1 hw hp ⟨_, rfl, ?_⟩
  have hlt := bv_lt h hw hp (show 3 < 16 by omega)
  have e6 : (6 : Int32) + nI (lnA dk Q.2.2 p) = nI (6 + lnA dk Q.2.2 p) := by rw [n_6, nI_add]
  refine vc_X 30 _ _ _ _ _ _ _ ?_
  simp only [↓v31_0, ↓v31_1, ↓v31_4, ↓v31_6, ↓v31_7, ↓v31_8, ↓v31_11, ↓v31_12, ↓v31_13, ↓v31_14, ↓v31_16, ↓v31_18, ↓v31_20, ↓v31_21, ↓v31_22, ↓v31_25, ↓v31_26, ↓v31_29, ↓v31_30, ↓v31_32, ↓v31_33, ↓v31_36, ↓v31_38, ↓v31_39, ↓v31_41, ↓v31_43, ↓v31_45, ↓v31_48, ↓v31_50, ↓v31_52, ↓v31_53, ↓v31_55, ↓v31_56, ↓v31_58, ↓v31_60, ↓v31_62, ↓v31_65, ↓v31_67, ↓v31_68, ↓v31_71, ↓v31_72, ↓v31_74, ↓v31_77, ↓v31_79, ↓v31_81, ↓v31_84, ↓v31_87, ↓v31_88, ↓v31_91, ↓v31_92, ↓v31_94, ↓v31_95, ↓v31_97, ↓v31_100, ↓v31_103, ↓v31_106, ↓v31_109, ↓v31_112, ↓v31_115, ↓qI_c, ↓qL_c, ↓qR_c, ↓pA_o, ↓qC_i, ↓qC_r, ↓oA_s, ↓gI_0, ↓gI_1, ↓gI_2, ↓gI_3, ↓gI_4, ↓gI_5, ↓gI_6, ↓gI_7, ↓gI_8, ↓gI_9, ↓gI_10, ↓gR_0, ↓gR_1, ↓gR_2, ↓gR_3, ↓gR_4, ↓gR_5, ↓gR_6, ↓gR_7, ↓gR_8, ↓gR_9, ↓gR_10, ↓sL_0, ↓sL_1, ↓sL_2, ↓sL_3, ↓sL_4, ↓sL_5, ↓sL_6, ↓sL_7, ↓sL_8, ↓sL_9, ↓sL_10, ↓rrf_si, ↓rrf_sg, ↓shO_si, ↓shO_sg, ↓shO_sr, ↓shA_si, ↓shA_sg, ↓shA_sr, ↓pAs_0, ↓pAs_i, ↓pAs_r, stk_n, stk_i, stk_l, stk_r, List.nil_append, List.cons_append, true_and, and_true, true_or, or_true, Nat.zero_add, dp_s, Nat.reduceAdd, le8_0, le8_1, le8_2, le8_3, le8_4, le8_5, le8_6, le8_7, le8_8, Classical.not_not, aT40, aT41, aT42, aT44, aT54, aT58, aT59, rT54, rT58, rT59, reduceIte, Nat.reduceEqDiff, qn_42, qn_44, true_implies, not_true_eq_false, not_false_eq_true, false_implies, e6]
  refine lop31 hw hp2 (by unfold lnA; omega) ha hc _ 0 M1 _ _ _ (Nat.zero_add _) h1 ?_ (fun M2 b2 o2 => hk M2 b2 ((o1.mono (by simp)).trans o2 (fun _ x => x)))
  rw [show min (16 * 0) (6 + lnA dk Q.2.2 p) - 6 = 0 by omega]
  exact b1
