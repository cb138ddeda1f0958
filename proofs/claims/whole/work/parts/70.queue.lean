/-! Queue: at q; its row at q + 1; the write of seat s at q + 2 + 2 s, with its bytes behind it. pm: the seat at each place of the row; ws: what waits, in order -/
def Qs (M : Mm) (q : Nat) (pm : Nat → Nat) : Prop := M.sh q = some (7, 0) ∧ M.rf q 0 = some (q + 1) ∧ M.sh (q + 1) = some (59, 120) ∧ (∀ k, k < 120 → M.rf (q + 1) k = some (q + 2 + 2 * pm k) ∧ pm k < 120) ∧ (∀ i j, i < 120 → j < 120 → pm i = pm j → i = j) ∧ (∀ s, s < 120 → Wr M (q + 2 + 2 * s) s)
def QuC (M : Mm) (q : Nat) (pm : Nat → Nat) (made : Nat) (ws : List WT) : Prop := Qs M q pm ∧ M.it q 1 = nI ws.length ∧ ws.length ≤ 120 ∧ M.it q 2 = nI made ∧ made < 1000000 ∧ ∀ k x, ws[k]? = some x → x.1 = pm k ∧ WrC M (q + 2 + 2 * pm k) x
def PQ (q : Nat) : Nat → Prop := fun x => q ≤ x ∧ x < q + 242
theorem Qs.kf {M M' : Mm} {P : Nat → Prop} {q : Nat} {pm : Nat → Nat} (h : Qs M q pm) (o : Of P M M') (hP : ∀ x, PQ q x → ¬ P x) : Qs M' q pm := by
  obtain ⟨h1, h2, h3, h4, h5, h6⟩ := h
  have i0 : ¬ P q := hP q ⟨by omega, by omega⟩
  have i1 : ¬ P (q + 1) := hP _ ⟨by omega, by omega⟩
  refine ⟨by rw [o.1]; exact h1, by rw [(o.2.2.2 q i0 0).2.2]; exact h2, by rw [o.1]; exact h3, fun k hk => ?_, h5, fun s hs => (h6 s hs).kf o (hP _ ⟨by omega, by omega⟩)⟩
  rw [(o.2.2.2 _ i1 k).2.2]
  exact h4 k hk
theorem QuC.kf {M M' : Mm} {P : Nat → Prop} {q made : Nat} {pm : Nat → Nat} {ws : List WT} (h : QuC M q pm made ws) (o : Of P M M') (hP : ∀ x, PQ q x → ¬ P x) : QuC M' q pm made ws := by
  obtain ⟨h1, h2, h3, h4, h5, h6⟩ := h
  have i0 : ¬ P q := hP q ⟨by omega, by omega⟩
  refine ⟨h1.kf o hP, by rw [(o.2.2.2 q i0 1).1]; exact h2, h3, by rw [(o.2.2.2 q i0 2).1]; exact h4, h5, fun k x hx => ?_⟩
  have hk : k < 120 := by have := (List.getElem?_eq_some_iff.mp hx).1; omega
  have := (h1.2.2.2.1 k hk).2
  exact ⟨(h6 k x hx).1, (h6 k x hx).2.kf o (hP _ ⟨by omega, by omega⟩) (hP _ ⟨by omega, by omega⟩)⟩
theorem k74 {d : Nat} {M : Mm} {k : mQ} {q made : Nat} {pm : Nat → Nat} {ws : List WT} {i : Int32} (h : QuC M q pm made ws) (h1 : ∀ j x, i = nI j → ws[j]? = some x → k (some (.inr (.inr (some (q + 2 + 2 * pm j))))) M) (h0 : ¬ inB i ws.length → k (some (.inr (.inr none))) M) : XC (d + 1) 74 [.inr (some q), .inl i] M k := by
  obtain ⟨⟨b1, b2, b3, b4, b5, b6⟩, g1, g2, g3, g4, g5⟩ := h
  refine xc ?_
  show X d 74 0 [some (.inr (some q)), some (.inl i)] [] M k
  by_cases hi : inB i ws.length
  · obtain ⟨j, hj, rfl⟩ := inB_of hi (by omega)
    have b4' : M.rf (q + 1) (nI j).toNatClampNeg = some (q + 2 + 2 * pm j) := by rw [nC (by omega)]; exact (b4 j (by omega)).1
    refine vc_X 30 _ _ _ _ _ _ _ ?_
    simp only [↓v74_0, ↓v74_1, ↓v74_4, ↓v74_5, ↓v74_6, ↓v74_9, ↓v74_12, ↓v74_13, ↓v74_16, ↓v74_17, ↓v74_18, ↓v74_21, ↓v74_22, ↓qI_c, ↓qL_c, ↓qR_c, ↓pA_o, ↓qC_i, ↓qC_r, ↓oA_s, ↓gI_0, ↓gI_1, ↓gI_2, ↓gI_3, ↓gI_4, ↓gI_5, ↓gI_6, ↓gI_7, ↓gI_8, ↓gI_9, ↓gI_10, ↓gR_0, ↓gR_1, ↓gR_2, ↓gR_3, ↓gR_4, ↓gR_5, ↓gR_6, ↓gR_7, ↓gR_8, ↓gR_9, ↓gR_10, ↓sL_0, ↓sL_1, ↓sL_2, ↓sL_3, ↓sL_4, ↓sL_5, ↓sL_6, ↓sL_7, ↓sL_8, ↓sL_9, ↓sL_10, ↓rrf_si, ↓rrf_sg, ↓shO_si, ↓shO_sg, ↓shO_sr, ↓shA_si, ↓shA_sg, ↓shA_sr, ↓pAs_0, ↓pAs_i, ↓pAs_r, stk_n, stk_i, stk_l, stk_r, List.nil_append, List.cons_append, true_and, and_true, true_or, or_true, Nat.zero_add, dp_s, Nat.reduceAdd, le8_0, le8_1, le8_2, le8_3, le8_4, le8_5, le8_6, le8_7, le8_8, Classical.not_not, aT40, aT41, aT42, aT44, aT54, aT58, aT59, rT54, rT58, rT59, reduceIte, Nat.reduceEqDiff, qn_42, qn_44, true_implies, not_true_eq_false, not_false_eq_true, false_implies, ↓shO_of b1, ↓rrf_of b2, ↓shA_of b3, ↓rrf_of b4', g1, lt_T, le_T, T_0, nT (show j < 2147483648 by omega), nT (show ws.length < 2147483648 by omega)]
    exact ⟨fun c => by omega, fun _ => ⟨fun c => by omega, fun _ => ⟨inB_n (by omega) (by omega), h1 j _ rfl (List.getElem?_eq_getElem hj)⟩⟩⟩
  · have hk := h0 hi
    refine vc_X 30 _ _ _ _ _ _ _ ?_
    simp only [↓v74_0, ↓v74_1, ↓v74_4, ↓v74_5, ↓v74_6, ↓v74_9, ↓v74_12, ↓v74_13, ↓v74_16, ↓v74_17, ↓v74_18, ↓v74_21, ↓v74_22, ↓qI_c, ↓qL_c, ↓qR_c, ↓pA_o, ↓qC_i, ↓qC_r, ↓oA_s, ↓gI_0, ↓gI_1, ↓gI_2, ↓gI_3, ↓gI_4, ↓gI_5, ↓gI_6, ↓gI_7, ↓gI_8, ↓gI_9, ↓gI_10, ↓gR_0, ↓gR_1, ↓gR_2, ↓gR_3, ↓gR_4, ↓gR_5, ↓gR_6, ↓gR_7, ↓gR_8, ↓gR_9, ↓gR_10, ↓sL_0, ↓sL_1, ↓sL_2, ↓sL_3, ↓sL_4, ↓sL_5, ↓sL_6, ↓sL_7, ↓sL_8, ↓sL_9, ↓sL_10, ↓rrf_si, ↓rrf_sg, ↓shO_si, ↓shO_sg, ↓shO_sr, ↓shA_si, ↓shA_sg, ↓shA_sr, ↓pAs_0, ↓pAs_i, ↓pAs_r, stk_n, stk_i, stk_l, stk_r, List.nil_append, List.cons_append, true_and, and_true, true_or, or_true, Nat.zero_add, dp_s, Nat.reduceAdd, le8_0, le8_1, le8_2, le8_3, le8_4, le8_5, le8_6, le8_7, le8_8, Classical.not_not, aT40, aT41, aT42, aT44, aT54, aT58, aT59, rT54, rT58, rT59, reduceIte, Nat.reduceEqDiff, qn_42, qn_44, true_implies, not_true_eq_false, not_false_eq_true, false_implies, ↓shO_of b1, ↓rrf_of b2, ↓shA_of b3, g1, lt_T, le_T, T_0, nT (show ws.length < 2147483648 by omega)]
    exact ⟨fun _ => hk, fun c => ⟨fun _ => hk, fun c2 => absurd ⟨by omega, by omega⟩ hi⟩⟩
theorem k51 {d : Nat} {M : Mm} {k : mQ} {q made m : Nat} {pm : Nat → Nat} {ws : List WT} (h : QuC M q pm made ws) (hm : m < 10000) (hk : k (some (.inl (if ws.length + m ≤ 120 then 1 else 0))) M) : XC (d + 1) 51 [.inr (some q), .inl (nI m)] M k := by
  obtain ⟨⟨b1, b2, b3, b4, b5, b6⟩, g1, g2, g3, g4, g5⟩ := h
  refine xc ?_
  show X d 51 0 [some (.inr (some q)), some (.inl (nI m))] [] M k
  refine vc_X 30 _ _ _ _ _ _ _ ?_
  simp only [↓v51_0, ↓v51_1, ↓v51_4, ↓v51_5, ↓v51_6, ↓v51_8, ↓v51_11, ↓v51_12, ↓v51_15, ↓v51_16, ↓qI_c, ↓qL_c, ↓qR_c, ↓pA_o, ↓qC_i, ↓qC_r, ↓oA_s, ↓gI_0, ↓gI_1, ↓gI_2, ↓gI_3, ↓gI_4, ↓gI_5, ↓gI_6, ↓gI_7, ↓gI_8, ↓gI_9, ↓gI_10, ↓gR_0, ↓gR_1, ↓gR_2, ↓gR_3, ↓gR_4, ↓gR_5, ↓gR_6, ↓gR_7, ↓gR_8, ↓gR_9, ↓gR_10, ↓sL_0, ↓sL_1, ↓sL_2, ↓sL_3, ↓sL_4, ↓sL_5, ↓sL_6, ↓sL_7, ↓sL_8, ↓sL_9, ↓sL_10, ↓rrf_si, ↓rrf_sg, ↓shO_si, ↓shO_sg, ↓shO_sr, ↓shA_si, ↓shA_sg, ↓shA_sr, ↓pAs_0, ↓pAs_i, ↓pAs_r, stk_n, stk_i, stk_l, stk_r, List.nil_append, List.cons_append, true_and, and_true, true_or, or_true, Nat.zero_add, dp_s, Nat.reduceAdd, le8_0, le8_1, le8_2, le8_3, le8_4, le8_5, le8_6, le8_7, le8_8, Classical.not_not, aT40, aT41, aT42, aT44, aT54, aT58, aT59, rT54, rT58, rT59, reduceIte, Nat.reduceEqDiff, qn_42, qn_44, true_implies, not_true_eq_false, not_false_eq_true, false_implies, ↓shO_of b1, g1, nI_add, lt_T, le_T, T_120, nT (show ws.length + m < 2147483648 by omega)]
  refine ⟨fun c => ?_, fun c => ?_⟩
  · rw [if_neg (by omega)] at hk
    exact hk
  · rw [if_pos (by omega)] at hk
    exact hk
theorem k101 {d : Nat} {M : Mm} {k : mQ} {q made : Nat} {pm : Nat → Nat} {ws : List WT} (h : QuC M q pm made ws) (hk : ∀ M', QuC M' q pm made [] → Of (· = q) M M' → k none M') : XC (d + 1) 101 [.inr (some q)] M k := by
  obtain ⟨⟨b1, b2, b3, b4, b5, b6⟩, g1, g2, g3, g4, g5⟩ := id h
  refine xc ?_
  show X d 101 0 [some (.inr (some q))] [] M k
  refine vc_X 30 _ _ _ _ _ _ _ ?_
  simp only [↓v101_0, ↓v101_1, ↓v101_2, ↓v101_5, ↓qI_c, ↓qL_c, ↓qR_c, ↓pA_o, ↓qC_i, ↓qC_r, ↓oA_s, ↓gI_0, ↓gI_1, ↓gI_2, ↓gI_3, ↓gI_4, ↓gI_5, ↓gI_6, ↓gI_7, ↓gI_8, ↓gI_9, ↓gI_10, ↓gR_0, ↓gR_1, ↓gR_2, ↓gR_3, ↓gR_4, ↓gR_5, ↓gR_6, ↓gR_7, ↓gR_8, ↓gR_9, ↓gR_10, ↓sL_0, ↓sL_1, ↓sL_2, ↓sL_3, ↓sL_4, ↓sL_5, ↓sL_6, ↓sL_7, ↓sL_8, ↓sL_9, ↓sL_10, ↓rrf_si, ↓rrf_sg, ↓shO_si, ↓shO_sg, ↓shO_sr, ↓shA_si, ↓shA_sg, ↓shA_sr, ↓pAs_0, ↓pAs_i, ↓pAs_r, stk_n, stk_i, stk_l, stk_r, List.nil_append, List.cons_append, true_and, and_true, true_or, or_true, Nat.zero_add, dp_s, Nat.reduceAdd, le8_0, le8_1, le8_2, le8_3, le8_4, le8_5, le8_6, le8_7, le8_8, Classical.not_not, aT40, aT41, aT42, aT44, aT54, aT58, aT59, rT54, rT58, rT59, reduceIte, Nat.reduceEqDiff, qn_42, qn_44, true_implies, not_true_eq_false, not_false_eq_true, false_implies, ↓shO_of b1]
  have o : Of (· = q) M (M.si q 1 0) := Of.rf_.i rfl
  refine hk _ ⟨⟨b1, b2, b3, b4, b5, fun s hs => (b6 s hs).kf o (by omega)⟩, ?_, Nat.zero_le _, ?_, g4, fun k x hx => by simp at hx⟩ o
  · rw [si_it, if_pos ⟨rfl, rfl⟩]
    rfl
  · rw [si_it, if_neg (by simp)]
    exact g3
/-- the last of 0 .. n - 1 that is such -/
def lst_ (p : Nat → Bool) : Nat → Option Nat
  | 0 => none
  | n + 1 => if p n then some n else lst_ p n
def tgtP (ws : List WT) (b : Nat) (i : Nat) : Bool := match ws[i]? with
  | some x => decide (x.2.2.1 = b)
  | none => false
def numP (ws : List WT) (b : Nat) (i : Nat) : Bool := match ws[i]? with
  | some x => decide (x.2.1 = b)
  | none => false
def adO (q : Nat) (pm : Nat → Nat) (o : Option Nat) : Option Nat := o.map (fun i => q + 2 + 2 * pm i)
theorem lop25 {d : Nat} {M : Mm} {k : mQ} {q made b : Nat} {pm : Nat → Nat} {ws : List WT} (h : QuC M q pm made ws) (hb : b < 1000) : ∀ i, i ≤ ws.length → k (some (.inr (.inr (adO q pm (lst_ (tgtP ws b) i))))) M → X d 25 7 [some (.inr (some q)), some (.inl (nI b)), some (.inl (nI i - 1))] [] M k := by
  obtain ⟨⟨b1, b2, b3, b4, b5, b6⟩, g1, g2, g3, g4, g5⟩ := h
  intro i
  induction i with
  | zero =>
    intro hi hk
    have e : nI 0 - 1 = (-1 : Int32) := rfl
    rw [e]
    refine vc_X 30 _ _ _ _ _ _ _ ?_
    simp only [↓v25_0, ↓v25_1, ↓v25_4, ↓v25_5, ↓v25_6, ↓v25_7, ↓v25_8, ↓v25_11, ↓v25_12, ↓v25_15, ↓v25_16, ↓v25_17, ↓v25_20, ↓v25_21, ↓v25_24, ↓v25_25, ↓v25_28, ↓v25_29, ↓v25_30, ↓v25_31, ↓v25_34, ↓v25_37, ↓v25_38, ↓qI_c, ↓qL_c, ↓qR_c, ↓pA_o, ↓qC_i, ↓qC_r, ↓oA_s, ↓gI_0, ↓gI_1, ↓gI_2, ↓gI_3, ↓gI_4, ↓gI_5, ↓gI_6, ↓gI_7, ↓gI_8, ↓gI_9, ↓gI_10, ↓gR_0, ↓gR_1, ↓gR_2, ↓gR_3, ↓gR_4, ↓gR_5, ↓gR_6, ↓gR_7, ↓gR_8, ↓gR_9, ↓gR_10, ↓sL_0, ↓sL_1, ↓sL_2, ↓sL_3, ↓sL_4, ↓sL_5, ↓sL_6, ↓sL_7, ↓sL_8, ↓sL_9, ↓sL_10, ↓rrf_si, ↓rrf_sg, ↓shO_si, ↓shO_sg, ↓shO_sr, ↓shA_si, ↓shA_sg, ↓shA_sr, ↓pAs_0, ↓pAs_i, ↓pAs_r, stk_n, stk_i, stk_l, stk_r, List.nil_append, List.cons_append, true_and, and_true, true_or, or_true, Nat.zero_add, dp_s, Nat.reduceAdd, le8_0, le8_1, le8_2, le8_3, le8_4, le8_5, le8_6, le8_7, le8_8, Classical.not_not, aT40, aT41, aT42, aT44, aT54, aT58, aT59, rT54, rT58, rT59, reduceIte, Nat.reduceEqDiff, qn_42, qn_44, true_implies, not_true_eq_false, not_false_eq_true, false_implies, lt_T, T_0, T_m1]
    exact ⟨fun _ => hk, fun c => absurd (by decide) c⟩
  | succ i ih =>
    intro hi hk
    have b4' : M.rf (q + 1) (nI i).toNatClampNeg = some (q + 2 + 2 * pm i) := by rw [nC (by omega)]; exact (b4 i (by omega)).1
    have hx : ws[i]? = some ws[i] := List.getElem?_eq_getElem (by omega)
    obtain ⟨-, ⟨w1, -⟩, w2, w3, -, -, -, -, w4⟩ := g5 i _ hx
    rw [nI_pred]
    refine vc_X 30 _ _ _ _ _ _ _ ?_
    simp only [↓v25_0, ↓v25_1, ↓v25_4, ↓v25_5, ↓v25_6, ↓v25_7, ↓v25_8, ↓v25_11, ↓v25_12, ↓v25_15, ↓v25_16, ↓v25_17, ↓v25_20, ↓v25_21, ↓v25_24, ↓v25_25, ↓v25_28, ↓v25_29, ↓v25_30, ↓v25_31, ↓v25_34, ↓v25_37, ↓v25_38, ↓qI_c, ↓qL_c, ↓qR_c, ↓pA_o, ↓qC_i, ↓qC_r, ↓oA_s, ↓gI_0, ↓gI_1, ↓gI_2, ↓gI_3, ↓gI_4, ↓gI_5, ↓gI_6, ↓gI_7, ↓gI_8, ↓gI_9, ↓gI_10, ↓gR_0, ↓gR_1, ↓gR_2, ↓gR_3, ↓gR_4, ↓gR_5, ↓gR_6, ↓gR_7, ↓gR_8, ↓gR_9, ↓gR_10, ↓sL_0, ↓sL_1, ↓sL_2, ↓sL_3, ↓sL_4, ↓sL_5, ↓sL_6, ↓sL_7, ↓sL_8, ↓sL_9, ↓sL_10, ↓rrf_si, ↓rrf_sg, ↓shO_si, ↓shO_sg, ↓shO_sr, ↓shA_si, ↓shA_sg, ↓shA_sr, ↓pAs_0, ↓pAs_i, ↓pAs_r, stk_n, stk_i, stk_l, stk_r, List.nil_append, List.cons_append, true_and, and_true, true_or, or_true, Nat.zero_add, dp_s, Nat.reduceAdd, le8_0, le8_1, le8_2, le8_3, le8_4, le8_5, le8_6, le8_7, le8_8, Classical.not_not, aT40, aT41, aT42, aT44, aT54, aT58, aT59, rT54, rT58, rT59, reduceIte, Nat.reduceEqDiff, qn_42, qn_44, true_implies, not_true_eq_false, not_false_eq_true, false_implies, ↓shO_of b1, ↓rrf_of b2, ↓shA_of b3, ↓rrf_of b4', ↓shO_of w1, w3, lt_T, T_0, nT (show i < 2147483648 by omega)]
    refine ⟨fun c => by omega, fun _ => ⟨inB_n (by omega) (by omega), fun c => ?_, fun c => ⟨inB_n (by omega) (by omega), ?_⟩⟩⟩
    · have hne : ¬ ws[i].2.2.1 = b := fun e => c (by rw [e])
      have e1 : lst_ (tgtP ws b) (i + 1) = lst_ (tgtP ws b) i := by
        show (if tgtP ws b i then some i else _) = _
        rw [show tgtP ws b i = false by unfold tgtP; rw [hx]; simp [hne]]
        rfl
      rw [e1] at hk
      have := ih (by omega) hk
      rw [show nI i - 1 = nI i + -1 from Int32.sub_eq_add_neg _ _] at this
      exact this
    · rw [nI_eq (by omega) (by omega)] at c
      have e1 : lst_ (tgtP ws b) (i + 1) = some i := by
        show (if tgtP ws b i then some i else _) = _
        rw [show tgtP ws b i = true by unfold tgtP; rw [hx]; simp [c]]
        rfl
      rw [e1] at hk
      exact hk
theorem k25 {d : Nat} {M : Mm} {k : mQ} {q made b : Nat} {pm : Nat → Nat} {ws : List WT} (h : QuC M q pm made ws) (hb : b < 1000) (hk : k (some (.inr (.inr (adO q pm (lst_ (tgtP ws b) ws.length))))) M) : XC (d + 1) 25 [.inr (some q), .inl (nI b)] M k := by
  refine xc ?_
  show X d 25 0 [some (.inr (some q)), some (.inl (nI b)), none] [] M k
  refine vc_X 30 _ _ _ _ _ _ _ ?_
  simp only [↓v25_0, ↓v25_1, ↓v25_4, ↓v25_5, ↓v25_6, ↓v25_7, ↓v25_8, ↓v25_11, ↓v25_12, ↓v25_15, ↓v25_16, ↓v25_17, ↓v25_20, ↓v25_21, ↓v25_24, ↓v25_25, ↓v25_28, ↓v25_29, ↓v25_30, ↓v25_31, ↓v25_34, ↓v25_37, ↓v25_38, ↓qI_c, ↓qL_c, ↓qR_c, ↓pA_o, ↓qC_i, ↓qC_r, ↓oA_s, ↓gI_0, ↓gI_1, ↓gI_2, ↓gI_3, ↓gI_4, ↓gI_5, ↓gI_6, ↓gI_7, ↓gI_8, ↓gI_9, ↓gI_10, ↓gR_0, ↓gR_1, ↓gR_2, ↓gR_3, ↓gR_4, ↓gR_5, ↓gR_6, ↓gR_7, ↓gR_8, ↓gR_9, ↓gR_10, ↓sL_0, ↓sL_1, ↓sL_2, ↓sL_3, ↓sL_4, ↓sL_5, ↓sL_6, ↓sL_7, ↓sL_8, ↓sL_9, ↓sL_10, ↓rrf_si, ↓rrf_sg, ↓shO_si, ↓shO_sg, ↓shO_sr, ↓shA_si, ↓shA_sg, ↓shA_sr, ↓pAs_0, ↓pAs_i, ↓pAs_r, stk_n, stk_i, stk_l, stk_r, List.nil_append, List.cons_append, true_and, and_true, true_or, or_true, Nat.zero_add, dp_s, Nat.reduceAdd, le8_0, le8_1, le8_2, le8_3, le8_4, le8_5, le8_6, le8_7, le8_8, Classical.not_not, aT40, aT41, aT42, aT44, aT54, aT58, aT59, rT54, rT58, rT59, reduceIte, Nat.reduceEqDiff, qn_42, qn_44, true_implies, not_true_eq_false, not_false_eq_true, false_implies, ↓shO_of h.1.1, h.2.1]
  exact lop25 h hb ws.length (Nat.le_refl _) hk
theorem lop54 {d : Nat} {M : Mm} {k : mQ} {q made : Nat} {b : Int32} {pm : Nat → Nat} {ws : List WT} (h : QuC M q pm made ws) (p : Nat → Bool) (hp : ∀ i x, ws[i]? = some x → (nI x.2.1 = b ↔ p i = true)) : ∀ m i, i + m = ws.length → k (some (.inr (.inr (adO q pm (fst_ p i m))))) M → X d 54 2 [some (.inr (some q)), some (.inl b), some (.inl (nI i))] [] M k := by
  obtain ⟨⟨b1, b2, b3, b4, b5, b6⟩, g1, g2, g3, g4, g5⟩ := h
  intro m
  induction m with
  | zero =>
    intro i hi hk
    refine vc_X 30 _ _ _ _ _ _ _ ?_
    simp only [↓v54_0, ↓v54_1, ↓v54_2, ↓v54_3, ↓v54_4, ↓v54_7, ↓v54_10, ↓v54_11, ↓v54_14, ↓v54_15, ↓v54_16, ↓v54_19, ↓v54_20, ↓v54_23, ↓v54_24, ↓v54_27, ↓v54_28, ↓v54_29, ↓v54_30, ↓v54_33, ↓v54_36, ↓v54_37, ↓qI_c, ↓qL_c, ↓qR_c, ↓pA_o, ↓qC_i, ↓qC_r, ↓oA_s, ↓gI_0, ↓gI_1, ↓gI_2, ↓gI_3, ↓gI_4, ↓gI_5, ↓gI_6, ↓gI_7, ↓gI_8, ↓gI_9, ↓gI_10, ↓gR_0, ↓gR_1, ↓gR_2, ↓gR_3, ↓gR_4, ↓gR_5, ↓gR_6, ↓gR_7, ↓gR_8, ↓gR_9, ↓gR_10, ↓sL_0, ↓sL_1, ↓sL_2, ↓sL_3, ↓sL_4, ↓sL_5, ↓sL_6, ↓sL_7, ↓sL_8, ↓sL_9, ↓sL_10, ↓rrf_si, ↓rrf_sg, ↓shO_si, ↓shO_sg, ↓shO_sr, ↓shA_si, ↓shA_sg, ↓shA_sr, ↓pAs_0, ↓pAs_i, ↓pAs_r, stk_n, stk_i, stk_l, stk_r, List.nil_append, List.cons_append, true_and, and_true, true_or, or_true, Nat.zero_add, dp_s, Nat.reduceAdd, le8_0, le8_1, le8_2, le8_3, le8_4, le8_5, le8_6, le8_7, le8_8, Classical.not_not, aT40, aT41, aT42, aT44, aT54, aT58, aT59, rT54, rT58, rT59, reduceIte, Nat.reduceEqDiff, qn_42, qn_44, true_implies, not_true_eq_false, not_false_eq_true, false_implies, ↓shO_of b1, g1, le_T, nT (show i < 2147483648 by omega), nT (show ws.length < 2147483648 by omega)]
    exact ⟨fun _ => hk, fun c => by omega⟩
  | succ m ih =>
    intro i hi hk
    have b4' : M.rf (q + 1) (nI i).toNatClampNeg = some (q + 2 + 2 * pm i) := by rw [nC (by omega)]; exact (b4 i (by omega)).1
    have hx : ws[i]? = some ws[i] := List.getElem?_eq_getElem (by omega)
    obtain ⟨-, ⟨w1, -⟩, w2, w3, -, -, -, -, w4⟩ := g5 i _ hx
    refine vc_X 30 _ _ _ _ _ _ _ ?_
    simp only [↓v54_0, ↓v54_1, ↓v54_2, ↓v54_3, ↓v54_4, ↓v54_7, ↓v54_10, ↓v54_11, ↓v54_14, ↓v54_15, ↓v54_16, ↓v54_19, ↓v54_20, ↓v54_23, ↓v54_24, ↓v54_27, ↓v54_28, ↓v54_29, ↓v54_30, ↓v54_33, ↓v54_36, ↓v54_37, ↓qI_c, ↓qL_c, ↓qR_c, ↓pA_o, ↓qC_i, ↓qC_r, ↓oA_s, ↓gI_0, ↓gI_1, ↓gI_2, ↓gI_3, ↓gI_4, ↓gI_5, ↓gI_6, ↓gI_7, ↓gI_8, ↓gI_9, ↓gI_10, ↓gR_0, ↓gR_1, ↓gR_2, ↓gR_3, ↓gR_4, ↓gR_5, ↓gR_6, ↓gR_7, ↓gR_8, ↓gR_9, ↓gR_10, ↓sL_0, ↓sL_1, ↓sL_2, ↓sL_3, ↓sL_4, ↓sL_5, ↓sL_6, ↓sL_7, ↓sL_8, ↓sL_9, ↓sL_10, ↓rrf_si, ↓rrf_sg, ↓shO_si, ↓shO_sg, ↓shO_sr, ↓shA_si, ↓shA_sg, ↓shA_sr, ↓pAs_0, ↓pAs_i, ↓pAs_r, stk_n, stk_i, stk_l, stk_r, List.nil_append, List.cons_append, true_and, and_true, true_or, or_true, Nat.zero_add, dp_s, Nat.reduceAdd, le8_0, le8_1, le8_2, le8_3, le8_4, le8_5, le8_6, le8_7, le8_8, Classical.not_not, aT40, aT41, aT42, aT44, aT54, aT58, aT59, rT54, rT58, rT59, reduceIte, Nat.reduceEqDiff, qn_42, qn_44, true_implies, not_true_eq_false, not_false_eq_true, false_implies, ↓shO_of b1, ↓rrf_of b2, ↓shA_of b3, ↓rrf_of b4', ↓shO_of w1, w2, g1, le_T, nT (show i < 2147483648 by omega), nT (show ws.length < 2147483648 by omega), nI_1]
    have e0 : fst_ p i (m + 1) = if p i then some i else fst_ p (i + 1) m := rfl
    rw [e0] at hk
    refine ⟨fun c => by omega, fun _ => ⟨inB_n (by omega) (by omega), fun c => ?_, fun c => ⟨inB_n (by omega) (by omega), ?_⟩⟩⟩
    · have hpf : p i = false := by
        cases hpi : p i with
        | false => rfl
        | true => exact absurd ((hp i _ hx).mpr hpi) c
      rw [hpf] at hk
      exact ih (i + 1) (by omega) hk
    · rw [(hp i _ hx).mp c] at hk
      exact hk
theorem k54 {d : Nat} {M : Mm} {k : mQ} {q made : Nat} {b : Int32} {pm : Nat → Nat} {ws : List WT} (h : QuC M q pm made ws) (p : Nat → Bool) (hp : ∀ i x, ws[i]? = some x → (nI x.2.1 = b ↔ p i = true)) (hk : k (some (.inr (.inr (adO q pm (fst_ p 0 ws.length))))) M) : XC (d + 1) 54 [.inr (some q), .inl b] M k := by
  refine xc ?_
  show X d 54 0 [some (.inr (some q)), some (.inl b), none] [] M k
  refine vc_X 30 _ _ _ _ _ _ _ ?_
  simp only [↓v54_0, ↓v54_1, ↓v54_2, ↓v54_3, ↓v54_4, ↓v54_7, ↓v54_10, ↓v54_11, ↓v54_14, ↓v54_15, ↓v54_16, ↓v54_19, ↓v54_20, ↓v54_23, ↓v54_24, ↓v54_27, ↓v54_28, ↓v54_29, ↓v54_30, ↓v54_33, ↓v54_36, ↓v54_37, ↓qI_c, ↓qL_c, ↓qR_c, ↓pA_o, ↓qC_i, ↓qC_r, ↓oA_s, ↓gI_0, ↓gI_1, ↓gI_2, ↓gI_3, ↓gI_4, ↓gI_5, ↓gI_6, ↓gI_7, ↓gI_8, ↓gI_9, ↓gI_10, ↓gR_0, ↓gR_1, ↓gR_2, ↓gR_3, ↓gR_4, ↓gR_5, ↓gR_6, ↓gR_7, ↓gR_8, ↓gR_9, ↓gR_10, ↓sL_0, ↓sL_1, ↓sL_2, ↓sL_3, ↓sL_4, ↓sL_5, ↓sL_6, ↓sL_7, ↓sL_8, ↓sL_9, ↓sL_10, ↓rrf_si, ↓rrf_sg, ↓shO_si, ↓shO_sg, ↓shO_sr, ↓shA_si, ↓shA_sg, ↓shA_sr, ↓pAs_0, ↓pAs_i, ↓pAs_r, stk_n, stk_i, stk_l, stk_r, List.nil_append, List.cons_append, true_and, and_true, true_or, or_true, Nat.zero_add, dp_s, Nat.reduceAdd, le8_0, le8_1, le8_2, le8_3, le8_4, le8_5, le8_6, le8_7, le8_8, Classical.not_not, aT40, aT41, aT42, aT44, aT54, aT58, aT59, rT54, rT58, rT59, reduceIte, Nat.reduceEqDiff, qn_42, qn_44, true_implies, not_true_eq_false, not_false_eq_true, false_implies]
  exact lop54 h p hp ws.length 0 (Nat.zero_add _) hk
