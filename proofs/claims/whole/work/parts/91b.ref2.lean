/-! the reference's small methods -/
theorem e119 {d : Nat} {M : Mm} {k : mQ} {x : Int32} (h1 : inB x 48 → k (some (.inl 1)) M) (h0 : ¬ inB x 48 → k (some (.inl 0)) M) : XC (d + 1) 119 [.inl x] M k := by
  refine xc ?_
  show X d 119 0 [some (.inl x)] [] M k
  unfold inB at h1 h0
  refine vc_X 20 _ _ _ _ _ _ _ ?_
  simp only [↓v119_0, ↓v119_1, ↓v119_4, ↓v119_5, ↓v119_7, ↓v119_10, ↓v119_11, ↓v119_14, ↓v119_15, ↓qI_c, ↓qL_c, ↓qR_c, ↓pA_o, ↓qC_i, ↓qC_r, ↓oA_s, ↓gI_0, ↓gI_1, ↓gI_2, ↓gI_3, ↓gI_4, ↓gI_5, ↓gI_6, ↓gI_7, ↓gI_8, ↓gI_9, ↓gI_10, ↓gR_0, ↓gR_1, ↓gR_2, ↓gR_3, ↓gR_4, ↓gR_5, ↓gR_6, ↓gR_7, ↓gR_8, ↓gR_9, ↓gR_10, ↓sL_0, ↓sL_1, ↓sL_2, ↓sL_3, ↓sL_4, ↓sL_5, ↓sL_6, ↓sL_7, ↓sL_8, ↓sL_9, ↓sL_10, ↓rrf_si, ↓rrf_sg, ↓shO_si, ↓shO_sg, ↓shO_sr, ↓shA_si, ↓shA_sg, ↓shA_sr, ↓pAs_0, ↓pAs_i, ↓pAs_r, stk_n, stk_i, stk_l, stk_r, List.nil_append, List.cons_append, true_and, and_true, true_or, or_true, Nat.zero_add, dp_s, Nat.reduceAdd, le8_0, le8_1, le8_2, le8_3, le8_4, le8_5, le8_6, le8_7, le8_8, Classical.not_not, aT40, aT41, aT42, aT44, aT54, aT58, aT59, rT54, rT58, rT59, reduceIte, Nat.reduceEqDiff, qn_42, qn_44, true_implies, not_true_eq_false, not_false_eq_true, false_implies, lt_T, le_T, T_0, T_48]
  exact ⟨fun c => h0 (by omega), fun c => ⟨fun c2 => h0 (by omega), fun c2 => h1 (by omega)⟩⟩
theorem e122 {d : Nat} {M : Mm} {k : mQ} {n : Nat} (hn : n < 100000) (hk : k (some (.inl (nI ((n + 23) / 16)))) M) : XC (d + 1) 122 [.inl (nI n)] M k := by
  refine xc ?_
  show X d 122 0 [some (.inl (nI n))] [] M k
  refine vc_X 20 _ _ _ _ _ _ _ ?_
  simp only [↓v122_0, ↓v122_1, ↓v122_3, ↓v122_4, ↓v122_6, ↓v122_7, ↓v122_9, ↓v122_10, ↓qI_c, ↓qL_c, ↓qR_c, ↓pA_o, ↓qC_i, ↓qC_r, ↓oA_s, ↓gI_0, ↓gI_1, ↓gI_2, ↓gI_3, ↓gI_4, ↓gI_5, ↓gI_6, ↓gI_7, ↓gI_8, ↓gI_9, ↓gI_10, ↓gR_0, ↓gR_1, ↓gR_2, ↓gR_3, ↓gR_4, ↓gR_5, ↓gR_6, ↓gR_7, ↓gR_8, ↓gR_9, ↓gR_10, ↓sL_0, ↓sL_1, ↓sL_2, ↓sL_3, ↓sL_4, ↓sL_5, ↓sL_6, ↓sL_7, ↓sL_8, ↓sL_9, ↓sL_10, ↓rrf_si, ↓rrf_sg, ↓shO_si, ↓shO_sg, ↓shO_sr, ↓shA_si, ↓shA_sg, ↓shA_sr, ↓pAs_0, ↓pAs_i, ↓pAs_r, stk_n, stk_i, stk_l, stk_r, List.nil_append, List.cons_append, true_and, and_true, true_or, or_true, Nat.zero_add, dp_s, Nat.reduceAdd, le8_0, le8_1, le8_2, le8_3, le8_4, le8_5, le8_6, le8_7, le8_8, Classical.not_not, aT40, aT41, aT42, aT44, aT54, aT58, aT59, rT54, rT58, rT59, reduceIte, Nat.reduceEqDiff, qn_42, qn_44, true_implies, not_true_eq_false, not_false_eq_true, false_implies]
  refine ⟨by decide, ?_⟩
  rw [n_8, n_15, n_16, nI_add, nI_add, pk_div (by omega) (by omega) (by omega)]
  exact hk
theorem e123 {d : Nat} {M : Mm} {k : mQ} {r : Nat} {pt : Nat → Nat} {op : Option Nat} (hs : RS M r) (hp : RPt M (r + 4) pt) (ho : M.it r 9 = oI op) (ho8 : ∀ e, op = some e → e < 8) (hk : k (some (.inl (nI (cnt (emE pt op) 8)))) M) : XC (d + 1) 123 [.inr (some r)] M k := by
  have lop : ∀ m i, i + m = 8 → X d 123 4 [some (.inr (some r)), some (.inl (nI (cnt (emE pt op) i))), some (.inl (nI i))] [] M k := by
    intro m
    induction m with
    | zero =>
      intro i hi
      have e : i = 8 := by omega
      subst e
      refine vc_X 20 _ _ _ _ _ _ _ ?_
      simp only [↓v123_0, ↓v123_1, ↓v123_2, ↓v123_3, ↓v123_4, ↓v123_5, ↓v123_7, ↓v123_10, ↓v123_11, ↓v123_12, ↓v123_15, ↓v123_16, ↓v123_17, ↓v123_20, ↓v123_21, ↓v123_22, ↓v123_25, ↓v123_28, ↓v123_29, ↓v123_32, ↓v123_33, ↓v123_34, ↓v123_35, ↓v123_38, ↓v123_41, ↓v123_42, ↓qI_c, ↓qL_c, ↓qR_c, ↓pA_o, ↓qC_i, ↓qC_r, ↓oA_s, ↓gI_0, ↓gI_1, ↓gI_2, ↓gI_3, ↓gI_4, ↓gI_5, ↓gI_6, ↓gI_7, ↓gI_8, ↓gI_9, ↓gI_10, ↓gR_0, ↓gR_1, ↓gR_2, ↓gR_3, ↓gR_4, ↓gR_5, ↓gR_6, ↓gR_7, ↓gR_8, ↓gR_9, ↓gR_10, ↓sL_0, ↓sL_1, ↓sL_2, ↓sL_3, ↓sL_4, ↓sL_5, ↓sL_6, ↓sL_7, ↓sL_8, ↓sL_9, ↓sL_10, ↓rrf_si, ↓rrf_sg, ↓shO_si, ↓shO_sg, ↓shO_sr, ↓shA_si, ↓shA_sg, ↓shA_sr, ↓pAs_0, ↓pAs_i, ↓pAs_r, stk_n, stk_i, stk_l, stk_r, List.nil_append, List.cons_append, true_and, and_true, true_or, or_true, Nat.zero_add, dp_s, Nat.reduceAdd, le8_0, le8_1, le8_2, le8_3, le8_4, le8_5, le8_6, le8_7, le8_8, Classical.not_not, aT40, aT41, aT42, aT44, aT54, aT58, aT59, rT54, rT58, rT59, reduceIte, Nat.reduceEqDiff, qn_42, qn_44, true_implies, not_true_eq_false, not_false_eq_true, false_implies, le_T, T_8, nT (show 8 < 2147483648 by omega)]
      exact ⟨fun _ => hk, fun c => absurd (by decide) c⟩
    | succ m ih =>
      intro i hi
      obtain ⟨h1, h2⟩ := hp i (by omega)
      have ih1 := ih (i + 1) (by omega)
      have e1 : cnt (emE pt op) (i + 1) = cnt (emE pt op) i + (if emE pt op i then 1 else 0) := rfl
      rw [e1] at ih1
      refine vc_X 30 _ _ _ _ _ _ _ ?_
      simp only [↓v123_0, ↓v123_1, ↓v123_2, ↓v123_3, ↓v123_4, ↓v123_5, ↓v123_7, ↓v123_10, ↓v123_11, ↓v123_12, ↓v123_15, ↓v123_16, ↓v123_17, ↓v123_20, ↓v123_21, ↓v123_22, ↓v123_25, ↓v123_28, ↓v123_29, ↓v123_32, ↓v123_33, ↓v123_34, ↓v123_35, ↓v123_38, ↓v123_41, ↓v123_42, ↓qI_c, ↓qL_c, ↓qR_c, ↓pA_o, ↓qC_i, ↓qC_r, ↓oA_s, ↓gI_0, ↓gI_1, ↓gI_2, ↓gI_3, ↓gI_4, ↓gI_5, ↓gI_6, ↓gI_7, ↓gI_8, ↓gI_9, ↓gI_10, ↓gR_0, ↓gR_1, ↓gR_2, ↓gR_3, ↓gR_4, ↓gR_5, ↓gR_6, ↓gR_7, ↓gR_8, ↓gR_9, ↓gR_10, ↓sL_0, ↓sL_1, ↓sL_2, ↓sL_3, ↓sL_4, ↓sL_5, ↓sL_6, ↓sL_7, ↓sL_8, ↓sL_9, ↓sL_10, ↓rrf_si, ↓rrf_sg, ↓shO_si, ↓shO_sg, ↓shO_sr, ↓shA_si, ↓shA_sg, ↓shA_sr, ↓pAs_0, ↓pAs_i, ↓pAs_r, stk_n, stk_i, stk_l, stk_r, List.nil_append, List.cons_append, true_and, and_true, true_or, or_true, Nat.zero_add, dp_s, Nat.reduceAdd, le8_0, le8_1, le8_2, le8_3, le8_4, le8_5, le8_6, le8_7, le8_8, Classical.not_not, aT40, aT41, aT42, aT44, aT54, aT58, aT59, rT54, rT58, rT59, reduceIte, Nat.reduceEqDiff, qn_42, qn_44, true_implies, not_true_eq_false, not_false_eq_true, false_implies, le_T, T_8, nT (show i < 2147483648 by omega), ↓shO_of hs.1.1, ↓rrf_of hs.1.2.2.2.2.1, ↓shA_of hs.2.2.2.1.2.2.2.1, nC (show i < 2147483648 by omega), h1, ho, nI_1]
      have z0 : nI (cnt (emE pt op) i) + 0 = nI (cnt (emE pt op) i) := by rw [n_0, nI_add]; rfl
      have z1 : nI (cnt (emE pt op) i) + 1 = nI (cnt (emE pt op) i + 1) := by rw [n_1, nI_add]
      refine ⟨fun c => by omega, fun _ => ⟨inB_n (by omega) (by omega), fun c => ?_, fun c => ⟨fun c2 => ?_, fun c2 => ?_⟩⟩⟩
      · have hf : emE pt op i = false := by
          unfold emE
          rw [show (pt i == 0) = false from beq_eq_false_iff_ne.mpr (fun q => c (by rw [q]; rfl)), Bool.false_and]
        rw [hf] at ih1
        rw [z0]
        exact ih1
      · have hf : emE pt op i = false := by
          unfold emE
          have : op = some i := by
            cases ho2 : op with
            | none =>
              rw [ho2] at c2
              have c2 : nI i = -1 := c2
              rw [nI_nm (by omega) (by decide)] at c2
              exact c2.elim
            | some e =>
              rw [ho2] at c2
              have h8 := ho8 e ho2
              have c2 : nI i = nI e := c2
              rw [nI_eq (by omega) (by omega)] at c2
              rw [c2]
          rw [this]
          simp
        rw [hf] at ih1
        rw [z0]
        exact ih1
      · have ht : emE pt op i = true := by
          unfold emE
          rw [n_0, nI_eq (by omega) (by omega)] at c
          rw [c]
          have : op ≠ some i := fun q => c2 (by rw [q]; rfl)
          simp [this]
        rw [ht] at ih1
        exact ih1
  refine xc ?_
  show X d 123 0 [some (.inr (some r)), none, none] [] M k
  refine vc_X 20 _ _ _ _ _ _ _ ?_
  simp only [↓v123_0, ↓v123_1, ↓v123_2, ↓v123_3, ↓v123_4, ↓v123_5, ↓v123_7, ↓v123_10, ↓v123_11, ↓v123_12, ↓v123_15, ↓v123_16, ↓v123_17, ↓v123_20, ↓v123_21, ↓v123_22, ↓v123_25, ↓v123_28, ↓v123_29, ↓v123_32, ↓v123_33, ↓v123_34, ↓v123_35, ↓v123_38, ↓v123_41, ↓v123_42, ↓qI_c, ↓qL_c, ↓qR_c, ↓pA_o, ↓qC_i, ↓qC_r, ↓oA_s, ↓gI_0, ↓gI_1, ↓gI_2, ↓gI_3, ↓gI_4, ↓gI_5, ↓gI_6, ↓gI_7, ↓gI_8, ↓gI_9, ↓gI_10, ↓gR_0, ↓gR_1, ↓gR_2, ↓gR_3, ↓gR_4, ↓gR_5, ↓gR_6, ↓gR_7, ↓gR_8, ↓gR_9, ↓gR_10, ↓sL_0, ↓sL_1, ↓sL_2, ↓sL_3, ↓sL_4, ↓sL_5, ↓sL_6, ↓sL_7, ↓sL_8, ↓sL_9, ↓sL_10, ↓rrf_si, ↓rrf_sg, ↓shO_si, ↓shO_sg, ↓shO_sr, ↓shA_si, ↓shA_sg, ↓shA_sr, ↓pAs_0, ↓pAs_i, ↓pAs_r, stk_n, stk_i, stk_l, stk_r, List.nil_append, List.cons_append, true_and, and_true, true_or, or_true, Nat.zero_add, dp_s, Nat.reduceAdd, le8_0, le8_1, le8_2, le8_3, le8_4, le8_5, le8_6, le8_7, le8_8, Classical.not_not, aT40, aT41, aT42, aT44, aT54, aT58, aT59, rT54, rT58, rT59, reduceIte, Nat.reduceEqDiff, qn_42, qn_44, true_implies, not_true_eq_false, not_false_eq_true, false_implies]
  exact lop 8 0 (by omega)
/-- the writes by their targets -/
def tgM (ws : List Wm) (b i : Nat) : Bool := match ws[i]? with
  | some w => decide (w.t = b)
  | none => false
theorem e133 {d : Nat} {M : Mm} {k : mQ} {r b : Nat} {ws : List Wm} (hs : RS M r) (hw : RWs M r ws) (hl : M.it r 14 = nI ws.length) (hl2 : ws.length ≤ 160) (hb : b < 1000) (hk : k (some (.inl (oI (lst_ (tgM ws b) ws.length)))) M) : XC (d + 1) 133 [.inr (some r), .inl (nI b)] M k := by
  have lop : ∀ i, i ≤ ws.length → k (some (.inl (oI (lst_ (tgM ws b) i)))) M → X d 133 7 [some (.inr (some r)), some (.inl (nI b)), some (.inl (nI i - 1))] [] M k := by
    intro i
    induction i with
    | zero =>
      intro hi hk
      refine vc_X 20 _ _ _ _ _ _ _ ?_
      simp only [↓v133_0, ↓v133_1, ↓v133_4, ↓v133_5, ↓v133_6, ↓v133_7, ↓v133_8, ↓v133_11, ↓v133_12, ↓v133_15, ↓v133_16, ↓v133_17, ↓v133_18, ↓v133_21, ↓v133_22, ↓v133_23, ↓v133_26, ↓v133_29, ↓v133_30, ↓qI_c, ↓qL_c, ↓qR_c, ↓pA_o, ↓qC_i, ↓qC_r, ↓oA_s, ↓gI_0, ↓gI_1, ↓gI_2, ↓gI_3, ↓gI_4, ↓gI_5, ↓gI_6, ↓gI_7, ↓gI_8, ↓gI_9, ↓gI_10, ↓gR_0, ↓gR_1, ↓gR_2, ↓gR_3, ↓gR_4, ↓gR_5, ↓gR_6, ↓gR_7, ↓gR_8, ↓gR_9, ↓gR_10, ↓sL_0, ↓sL_1, ↓sL_2, ↓sL_3, ↓sL_4, ↓sL_5, ↓sL_6, ↓sL_7, ↓sL_8, ↓sL_9, ↓sL_10, ↓rrf_si, ↓rrf_sg, ↓shO_si, ↓shO_sg, ↓shO_sr, ↓shA_si, ↓shA_sg, ↓shA_sr, ↓pAs_0, ↓pAs_i, ↓pAs_r, stk_n, stk_i, stk_l, stk_r, List.nil_append, List.cons_append, true_and, and_true, true_or, or_true, Nat.zero_add, dp_s, Nat.reduceAdd, le8_0, le8_1, le8_2, le8_3, le8_4, le8_5, le8_6, le8_7, le8_8, Classical.not_not, aT40, aT41, aT42, aT44, aT54, aT58, aT59, rT54, rT58, rT59, reduceIte, Nat.reduceEqDiff, qn_42, qn_44, true_implies, not_true_eq_false, not_false_eq_true, false_implies, lt_T]
      exact ⟨fun _ => hk, fun c => absurd (by decide) c⟩
    | succ i ih =>
      intro hi hk
      have hx : ws[i]? = some ws[i] := List.getElem?_eq_getElem (by omega)
      have w1 := (hw i _ hx).1
      have e1 : nI (i + 1) - 1 = nI i := by rw [n_1]; exact pk_sub (by omega)
      rw [e1]
      refine vc_X 30 _ _ _ _ _ _ _ ?_
      simp only [↓v133_0, ↓v133_1, ↓v133_4, ↓v133_5, ↓v133_6, ↓v133_7, ↓v133_8, ↓v133_11, ↓v133_12, ↓v133_15, ↓v133_16, ↓v133_17, ↓v133_18, ↓v133_21, ↓v133_22, ↓v133_23, ↓v133_26, ↓v133_29, ↓v133_30, ↓qI_c, ↓qL_c, ↓qR_c, ↓pA_o, ↓qC_i, ↓qC_r, ↓oA_s, ↓gI_0, ↓gI_1, ↓gI_2, ↓gI_3, ↓gI_4, ↓gI_5, ↓gI_6, ↓gI_7, ↓gI_8, ↓gI_9, ↓gI_10, ↓gR_0, ↓gR_1, ↓gR_2, ↓gR_3, ↓gR_4, ↓gR_5, ↓gR_6, ↓gR_7, ↓gR_8, ↓gR_9, ↓gR_10, ↓sL_0, ↓sL_1, ↓sL_2, ↓sL_3, ↓sL_4, ↓sL_5, ↓sL_6, ↓sL_7, ↓sL_8, ↓sL_9, ↓sL_10, ↓rrf_si, ↓rrf_sg, ↓shO_si, ↓shO_sg, ↓shO_sr, ↓shA_si, ↓shA_sg, ↓shA_sr, ↓pAs_0, ↓pAs_i, ↓pAs_r, stk_n, stk_i, stk_l, stk_r, List.nil_append, List.cons_append, true_and, and_true, true_or, or_true, Nat.zero_add, dp_s, Nat.reduceAdd, le8_0, le8_1, le8_2, le8_3, le8_4, le8_5, le8_6, le8_7, le8_8, Classical.not_not, aT40, aT41, aT42, aT44, aT54, aT58, aT59, rT54, rT58, rT59, reduceIte, Nat.reduceEqDiff, qn_42, qn_44, true_implies, not_true_eq_false, not_false_eq_true, false_implies, lt_T, T_0, nT (show i < 2147483648 by omega), ↓shO_of hs.1.1, ↓rrf_of hs.2.1.2.2.2.2.1, ↓shA_of hs.2.2.2.2.1.2.2.1, nC (show i < 2147483648 by omega), w1.2.1]
      have wt := w1.2.2.2
      refine ⟨fun c => by omega, fun _ => ⟨inB_n (by omega) (by omega), fun c => ?_, fun c => ?_⟩⟩
      · have hne : ¬ ws[i].t = b := fun e => c (by rw [e])
        have e1 : lst_ (tgM ws b) (i + 1) = lst_ (tgM ws b) i := by
          show (if tgM ws b i then some i else _) = _
          rw [show tgM ws b i = false by unfold tgM; rw [hx]; simp [hne]]
          rfl
        rw [e1] at hk
        have := ih (by omega) hk
        rw [show nI i - 1 = nI i + -1 from Int32.sub_eq_add_neg _ _] at this
        exact this
      · rw [nI_eq (by omega) (by omega)] at c
        have e1 : lst_ (tgM ws b) (i + 1) = some i := by
          show (if tgM ws b i then some i else _) = _
          rw [show tgM ws b i = true by unfold tgM; rw [hx]; simp [c]]
          rfl
        rw [e1] at hk
        exact hk
  refine xc ?_
  show X d 133 0 [some (.inr (some r)), some (.inl (nI b)), none] [] M k
  refine vc_X 20 _ _ _ _ _ _ _ ?_
  simp only [↓v133_0, ↓v133_1, ↓v133_4, ↓v133_5, ↓v133_6, ↓v133_7, ↓v133_8, ↓v133_11, ↓v133_12, ↓v133_15, ↓v133_16, ↓v133_17, ↓v133_18, ↓v133_21, ↓v133_22, ↓v133_23, ↓v133_26, ↓v133_29, ↓v133_30, ↓qI_c, ↓qL_c, ↓qR_c, ↓pA_o, ↓qC_i, ↓qC_r, ↓oA_s, ↓gI_0, ↓gI_1, ↓gI_2, ↓gI_3, ↓gI_4, ↓gI_5, ↓gI_6, ↓gI_7, ↓gI_8, ↓gI_9, ↓gI_10, ↓gR_0, ↓gR_1, ↓gR_2, ↓gR_3, ↓gR_4, ↓gR_5, ↓gR_6, ↓gR_7, ↓gR_8, ↓gR_9, ↓gR_10, ↓sL_0, ↓sL_1, ↓sL_2, ↓sL_3, ↓sL_4, ↓sL_5, ↓sL_6, ↓sL_7, ↓sL_8, ↓sL_9, ↓sL_10, ↓rrf_si, ↓rrf_sg, ↓shO_si, ↓shO_sg, ↓shO_sr, ↓shA_si, ↓shA_sg, ↓shA_sr, ↓pAs_0, ↓pAs_i, ↓pAs_r, stk_n, stk_i, stk_l, stk_r, List.nil_append, List.cons_append, true_and, and_true, true_or, or_true, Nat.zero_add, dp_s, Nat.reduceAdd, le8_0, le8_1, le8_2, le8_3, le8_4, le8_5, le8_6, le8_7, le8_8, Classical.not_not, aT40, aT41, aT42, aT44, aT54, aT58, aT59, rT54, rT58, rT59, reduceIte, Nat.reduceEqDiff, qn_42, qn_44, true_implies, not_true_eq_false, not_false_eq_true, false_implies, ↓shO_of hs.1.1, hl]
  exact lop ws.length (Nat.le_refl _) hk
theorem tgM_iff {ws : List Wm} {b i : Nat} : tgM ws b i = true ↔ ∃ w, ws[i]? = some w ∧ w.t = b := by
  unfold tgM
  cases ws[i]? with
  | none => simp
  | some w => simp
theorem tg_some {md : Nat} {ws : List Wm} {dk : Nat → Nat → Nat} {b i : Nat} (hN : NbI md ws) (h : lst_ (tgM ws b) ws.length = some i) : ∃ w, ws[i]? = some w ∧ w.t = b ∧ vw dk ws b = w.y := by
  obtain ⟨p1, p2⟩ := lst_spec _ _ _ h
  obtain ⟨w, hw, tw⟩ := tgM_iff.mp p1
  refine ⟨w, hw, tw, vw_last hN.1 (List.mem_of_getElem? hw) tw (fun y hy ty => ?_)⟩
  obtain ⟨j, hj⟩ := List.mem_iff_getElem?.mp hy
  refine Nat.le_of_not_lt (fun c => ?_)
  have lt := (idx_lt hN hw hj).mpr c
  have hjl := (List.getElem?_eq_some_iff.mp hj).1
  have := lst_max _ _ _ h j lt hjl
  rw [tgM_iff.mpr ⟨y, hj, ty⟩] at this
  cases this
theorem tg_none {ws : List Wm} {b : Nat} (h : lst_ (tgM ws b) ws.length = none) : ∀ y, y ∈ ws → y.t ≠ b := by
  intro y hy ty
  obtain ⟨j, hj⟩ := List.mem_iff_getElem?.mp hy
  have := lst_none _ _ h j (List.getElem?_eq_some_iff.mp hj).1
  rw [tgM_iff.mpr ⟨y, hj, ty⟩] at this
  cases this
/-- what is read of the disk and of what waits -/
def RD2 (M : Mm) (r : Nat) (dk : Nat → Nat → Nat) (ws : List Wm) (md : Nat) : Prop := RS M r ∧ RWs M r ws ∧ M.it r 14 = nI ws.length ∧ ws.length ≤ 160 ∧ RDk M (r + 2) dk ∧ NbI md ws ∧ BtI dk ws
theorem e132 {d : Nat} {M : Mm} {k : mQ} {r b i md : Nat} {ws : List Wm} {dk : Nat → Nat → Nat} (h : RD2 M r dk ws md) (hb : b < 128) (hi : i < 16) (hk : k (some (.inl (nI (vw dk ws b i)))) M) : XC (d + 2) 132 [.inr (some r), .inl (nI b), .inl (nI i)] M k := by
  obtain ⟨hs, hw, hl, hl2, hd, hN, hB⟩ := h
  refine xc ?_
  show X (d + 1) 132 0 [some (.inr (some r)), some (.inl (nI b)), some (.inl (nI i)), none] [] M k
  refine vc_X 20 _ _ _ _ _ _ _ ?_
  simp only [↓v132_0, ↓v132_1, ↓v132_2, ↓v132_5, ↓v132_6, ↓v132_7, ↓v132_8, ↓v132_11, ↓v132_12, ↓v132_15, ↓v132_17, ↓v132_18, ↓v132_19, ↓v132_20, ↓v132_21, ↓v132_22, ↓v132_25, ↓v132_26, ↓v132_29, ↓v132_31, ↓v132_32, ↓v132_33, ↓v132_34, ↓v132_35, ↓v132_36, ↓v132_39, ↓v132_40, ↓qI_c, ↓qL_c, ↓qR_c, ↓pA_o, ↓qC_i, ↓qC_r, ↓oA_s, ↓gI_0, ↓gI_1, ↓gI_2, ↓gI_3, ↓gI_4, ↓gI_5, ↓gI_6, ↓gI_7, ↓gI_8, ↓gI_9, ↓gI_10, ↓gR_0, ↓gR_1, ↓gR_2, ↓gR_3, ↓gR_4, ↓gR_5, ↓gR_6, ↓gR_7, ↓gR_8, ↓gR_9, ↓gR_10, ↓sL_0, ↓sL_1, ↓sL_2, ↓sL_3, ↓sL_4, ↓sL_5, ↓sL_6, ↓sL_7, ↓sL_8, ↓sL_9, ↓sL_10, ↓rrf_si, ↓rrf_sg, ↓shO_si, ↓shO_sg, ↓shO_sr, ↓shA_si, ↓shA_sg, ↓shA_sr, ↓pAs_0, ↓pAs_i, ↓pAs_r, stk_n, stk_i, stk_l, stk_r, List.nil_append, List.cons_append, true_and, and_true, true_or, or_true, Nat.zero_add, dp_s, Nat.reduceAdd, le8_0, le8_1, le8_2, le8_3, le8_4, le8_5, le8_6, le8_7, le8_8, Classical.not_not, aT40, aT41, aT42, aT44, aT54, aT58, aT59, rT54, rT58, rT59, reduceIte, Nat.reduceEqDiff, qn_42, qn_44, true_implies, not_true_eq_false, not_false_eq_true, false_implies, ↓shO_of hs.1.1]
  refine e133 hs hw hl hl2 (by omega) ⟨_, rfl, ?_⟩
  cases hf : lst_ (tgM ws b) ws.length with
  | none =>
    have e3 : (16 : Int32) * nI b + nI i = nI (16 * b + i) := by rw [n_16, pk_mul, nI_add]
    have := hd b i hb hi
    rw [vw_none (tg_none hf)] at hk
    refine vc_X 30 _ _ _ _ _ _ _ ?_
    simp only [↓v132_0, ↓v132_1, ↓v132_2, ↓v132_5, ↓v132_6, ↓v132_7, ↓v132_8, ↓v132_11, ↓v132_12, ↓v132_15, ↓v132_17, ↓v132_18, ↓v132_19, ↓v132_20, ↓v132_21, ↓v132_22, ↓v132_25, ↓v132_26, ↓v132_29, ↓v132_31, ↓v132_32, ↓v132_33, ↓v132_34, ↓v132_35, ↓v132_36, ↓v132_39, ↓v132_40, ↓qI_c, ↓qL_c, ↓qR_c, ↓pA_o, ↓qC_i, ↓qC_r, ↓oA_s, ↓gI_0, ↓gI_1, ↓gI_2, ↓gI_3, ↓gI_4, ↓gI_5, ↓gI_6, ↓gI_7, ↓gI_8, ↓gI_9, ↓gI_10, ↓gR_0, ↓gR_1, ↓gR_2, ↓gR_3, ↓gR_4, ↓gR_5, ↓gR_6, ↓gR_7, ↓gR_8, ↓gR_9, ↓gR_10, ↓sL_0, ↓sL_1, ↓sL_2, ↓sL_3, ↓sL_4, ↓sL_5, ↓sL_6, ↓sL_7, ↓sL_8, ↓sL_9, ↓sL_10, ↓rrf_si, ↓rrf_sg, ↓shO_si, ↓shO_sg, ↓shO_sr, ↓shA_si, ↓shA_sg, ↓shA_sr, ↓pAs_0, ↓pAs_i, ↓pAs_r, stk_n, stk_i, stk_l, stk_r, List.nil_append, List.cons_append, true_and, and_true, true_or, or_true, Nat.zero_add, dp_s, Nat.reduceAdd, le8_0, le8_1, le8_2, le8_3, le8_4, le8_5, le8_6, le8_7, le8_8, Classical.not_not, aT40, aT41, aT42, aT44, aT54, aT58, aT59, rT54, rT58, rT59, reduceIte, Nat.reduceEqDiff, qn_42, qn_44, true_implies, not_true_eq_false, not_false_eq_true, false_implies, oI_none, m11, ↓shO_of hs.1.1, ↓rrf_of hs.1.2.2.1, ↓shA_of hs.2.2.2.1.2.1, e3, nC (show 16 * b + i < 2147483648 by omega)]
    rw [this]
    exact ⟨inB_n (by omega) (by omega), hk⟩
  | some j =>
    obtain ⟨w, hwj, tw, ev⟩ := tg_some (dk := dk) hN hf
    have hjl := (List.getElem?_eq_some_iff.mp hwj).1
    have e3 : (16 : Int32) * nI j + nI i = nI (16 * j + i) := by rw [n_16, pk_mul, nI_add]
    have hr : w.r = none := RW.rn hN hwj (by omega)
    have := (hw j w hwj).2.2.1 hr i hi
    have e4 : oI (some j) = nI j := rfl
    rw [ev] at hk
    refine vc_X 30 _ _ _ _ _ _ _ ?_
    simp only [↓v132_0, ↓v132_1, ↓v132_2, ↓v132_5, ↓v132_6, ↓v132_7, ↓v132_8, ↓v132_11, ↓v132_12, ↓v132_15, ↓v132_17, ↓v132_18, ↓v132_19, ↓v132_20, ↓v132_21, ↓v132_22, ↓v132_25, ↓v132_26, ↓v132_29, ↓v132_31, ↓v132_32, ↓v132_33, ↓v132_34, ↓v132_35, ↓v132_36, ↓v132_39, ↓v132_40, ↓qI_c, ↓qL_c, ↓qR_c, ↓pA_o, ↓qC_i, ↓qC_r, ↓oA_s, ↓gI_0, ↓gI_1, ↓gI_2, ↓gI_3, ↓gI_4, ↓gI_5, ↓gI_6, ↓gI_7, ↓gI_8, ↓gI_9, ↓gI_10, ↓gR_0, ↓gR_1, ↓gR_2, ↓gR_3, ↓gR_4, ↓gR_5, ↓gR_6, ↓gR_7, ↓gR_8, ↓gR_9, ↓gR_10, ↓sL_0, ↓sL_1, ↓sL_2, ↓sL_3, ↓sL_4, ↓sL_5, ↓sL_6, ↓sL_7, ↓sL_8, ↓sL_9, ↓sL_10, ↓rrf_si, ↓rrf_sg, ↓shO_si, ↓shO_sg, ↓shO_sr, ↓shA_si, ↓shA_sg, ↓shA_sr, ↓pAs_0, ↓pAs_i, ↓pAs_r, stk_n, stk_i, stk_l, stk_r, List.nil_append, List.cons_append, true_and, and_true, true_or, or_true, Nat.zero_add, dp_s, Nat.reduceAdd, le8_0, le8_1, le8_2, le8_3, le8_4, le8_5, le8_6, le8_7, le8_8, Classical.not_not, aT40, aT41, aT42, aT44, aT54, aT58, aT59, rT54, rT58, rT59, reduceIte, Nat.reduceEqDiff, qn_42, qn_44, true_implies, not_true_eq_false, not_false_eq_true, false_implies, e4, nI_nm (show j < 2147483648 by omega) (show ((-1 : Int32)).toInt < 0 by decide), ↓shO_of hs.1.1, ↓rrf_of hs.2.1.2.2.2.2.2.2.2, ↓shA_of hs.2.2.2.2.1.2.2.2.2.2.1, e3, nC (show 16 * j + i < 2147483648 by omega)]
    rw [this]
    exact ⟨inB_n (by omega) (by omega), hk⟩
theorem e140 {d : Nat} {M : Mm} {k : mQ} {r : Nat} {ch : Nat → Option Nat} (hs : RS M r) (hc : RCh M (r + 8) ch) (ho : spOK ch) (hk : k (some (.inl (nI (cnt (fun k => (ch k).isSome) 48)))) M) : XC (d + 1) 140 [.inr (some r)] M k := by
  have lop : ∀ m i, i + m = 48 → X d 140 4 [some (.inr (some r)), some (.inl (nI (cnt (fun k => (ch k).isSome) i))), some (.inl (nI i))] [] M k := by
    intro m
    induction m with
    | zero =>
      intro i hi
      have e : i = 48 := by omega
      subst e
      refine vc_X 20 _ _ _ _ _ _ _ ?_
      simp only [↓v140_0, ↓v140_1, ↓v140_2, ↓v140_3, ↓v140_4, ↓v140_5, ↓v140_7, ↓v140_10, ↓v140_11, ↓v140_12, ↓v140_15, ↓v140_16, ↓v140_17, ↓v140_18, ↓v140_21, ↓v140_22, ↓v140_25, ↓v140_26, ↓v140_27, ↓v140_28, ↓v140_31, ↓v140_34, ↓v140_35, ↓qI_c, ↓qL_c, ↓qR_c, ↓pA_o, ↓qC_i, ↓qC_r, ↓oA_s, ↓gI_0, ↓gI_1, ↓gI_2, ↓gI_3, ↓gI_4, ↓gI_5, ↓gI_6, ↓gI_7, ↓gI_8, ↓gI_9, ↓gI_10, ↓gR_0, ↓gR_1, ↓gR_2, ↓gR_3, ↓gR_4, ↓gR_5, ↓gR_6, ↓gR_7, ↓gR_8, ↓gR_9, ↓gR_10, ↓sL_0, ↓sL_1, ↓sL_2, ↓sL_3, ↓sL_4, ↓sL_5, ↓sL_6, ↓sL_7, ↓sL_8, ↓sL_9, ↓sL_10, ↓rrf_si, ↓rrf_sg, ↓shO_si, ↓shO_sg, ↓shO_sr, ↓shA_si, ↓shA_sg, ↓shA_sr, ↓pAs_0, ↓pAs_i, ↓pAs_r, stk_n, stk_i, stk_l, stk_r, List.nil_append, List.cons_append, true_and, and_true, true_or, or_true, Nat.zero_add, dp_s, Nat.reduceAdd, le8_0, le8_1, le8_2, le8_3, le8_4, le8_5, le8_6, le8_7, le8_8, Classical.not_not, aT40, aT41, aT42, aT44, aT54, aT58, aT59, rT54, rT58, rT59, reduceIte, Nat.reduceEqDiff, qn_42, qn_44, true_implies, not_true_eq_false, not_false_eq_true, false_implies, le_T, T_48, nT (show 48 < 2147483648 by omega)]
      exact ⟨fun _ => hk, fun c => absurd (by decide) c⟩
    | succ m ih =>
      intro i hi
      have h1 := hc i (by omega)
      have ih1 := ih (i + 1) (by omega)
      have e1 : cnt (fun k => (ch k).isSome) (i + 1) = cnt (fun k => (ch k).isSome) i + (if (ch i).isSome then 1 else 0) := rfl
      rw [e1] at ih1
      have em : (oI (ch i) = -1) = (ch i = none) := oI_m1 (fun p hp => by have := ho i p (by omega) hp; omega)
      have z0 : nI (cnt (fun k => (ch k).isSome) i) + 0 = nI (cnt (fun k => (ch k).isSome) i) := by rw [n_0, nI_add]; rfl
      refine vc_X 30 _ _ _ _ _ _ _ ?_
      simp only [↓v140_0, ↓v140_1, ↓v140_2, ↓v140_3, ↓v140_4, ↓v140_5, ↓v140_7, ↓v140_10, ↓v140_11, ↓v140_12, ↓v140_15, ↓v140_16, ↓v140_17, ↓v140_18, ↓v140_21, ↓v140_22, ↓v140_25, ↓v140_26, ↓v140_27, ↓v140_28, ↓v140_31, ↓v140_34, ↓v140_35, ↓qI_c, ↓qL_c, ↓qR_c, ↓pA_o, ↓qC_i, ↓qC_r, ↓oA_s, ↓gI_0, ↓gI_1, ↓gI_2, ↓gI_3, ↓gI_4, ↓gI_5, ↓gI_6, ↓gI_7, ↓gI_8, ↓gI_9, ↓gI_10, ↓gR_0, ↓gR_1, ↓gR_2, ↓gR_3, ↓gR_4, ↓gR_5, ↓gR_6, ↓gR_7, ↓gR_8, ↓gR_9, ↓gR_10, ↓sL_0, ↓sL_1, ↓sL_2, ↓sL_3, ↓sL_4, ↓sL_5, ↓sL_6, ↓sL_7, ↓sL_8, ↓sL_9, ↓sL_10, ↓rrf_si, ↓rrf_sg, ↓shO_si, ↓shO_sg, ↓shO_sr, ↓shA_si, ↓shA_sg, ↓shA_sr, ↓pAs_0, ↓pAs_i, ↓pAs_r, stk_n, stk_i, stk_l, stk_r, List.nil_append, List.cons_append, true_and, and_true, true_or, or_true, Nat.zero_add, dp_s, Nat.reduceAdd, le8_0, le8_1, le8_2, le8_3, le8_4, le8_5, le8_6, le8_7, le8_8, Classical.not_not, aT40, aT41, aT42, aT44, aT54, aT58, aT59, rT54, rT58, rT59, reduceIte, Nat.reduceEqDiff, qn_42, qn_44, true_implies, not_true_eq_false, not_false_eq_true, false_implies, le_T, T_48, nT (show i < 2147483648 by omega), ↓shO_of hs.1.1, ↓rrf_of hs.2.1.2.1, ↓shA_of hs.2.2.2.1.2.2.2.2.2.2.2, nC (show i < 2147483648 by omega), h1, em, z0, nI_1]
      refine ⟨fun c => by omega, fun _ => ⟨inB_n (by omega) (by omega), fun c => ?_, fun c => ?_⟩⟩
      · rw [show (ch i).isSome = true by cases hq : ch i with | none => exact absurd hq c | some v => rfl] at ih1
        exact ih1
      · rw [c] at ih1
        exact ih1
  refine xc ?_
  show X d 140 0 [some (.inr (some r)), none, none] [] M k
  refine vc_X 20 _ _ _ _ _ _ _ ?_
  simp only [↓v140_0, ↓v140_1, ↓v140_2, ↓v140_3, ↓v140_4, ↓v140_5, ↓v140_7, ↓v140_10, ↓v140_11, ↓v140_12, ↓v140_15, ↓v140_16, ↓v140_17, ↓v140_18, ↓v140_21, ↓v140_22, ↓v140_25, ↓v140_26, ↓v140_27, ↓v140_28, ↓v140_31, ↓v140_34, ↓v140_35, ↓qI_c, ↓qL_c, ↓qR_c, ↓pA_o, ↓qC_i, ↓qC_r, ↓oA_s, ↓gI_0, ↓gI_1, ↓gI_2, ↓gI_3, ↓gI_4, ↓gI_5, ↓gI_6, ↓gI_7, ↓gI_8, ↓gI_9, ↓gI_10, ↓gR_0, ↓gR_1, ↓gR_2, ↓gR_3, ↓gR_4, ↓gR_5, ↓gR_6, ↓gR_7, ↓gR_8, ↓gR_9, ↓gR_10, ↓sL_0, ↓sL_1, ↓sL_2, ↓sL_3, ↓sL_4, ↓sL_5, ↓sL_6, ↓sL_7, ↓sL_8, ↓sL_9, ↓sL_10, ↓rrf_si, ↓rrf_sg, ↓shO_si, ↓shO_sg, ↓shO_sr, ↓shA_si, ↓shA_sg, ↓shA_sr, ↓pAs_0, ↓pAs_i, ↓pAs_r, stk_n, stk_i, stk_l, stk_r, List.nil_append, List.cons_append, true_and, and_true, true_or, or_true, Nat.zero_add, dp_s, Nat.reduceAdd, le8_0, le8_1, le8_2, le8_3, le8_4, le8_5, le8_6, le8_7, le8_8, Classical.not_not, aT40, aT41, aT42, aT44, aT54, aT58, aT59, rT54, rT58, rT59, reduceIte, Nat.reduceEqDiff, qn_42, qn_44, true_implies, not_true_eq_false, not_false_eq_true, false_implies]
  exact lop 48 0 (by omega)
theorem e129 {d : Nat} {M : Mm} {k : mQ} {r key : Nat} {ch : Nat → Option Nat} {tb : TbT} (hs : RS M r) (hc : RCh M (r + 8) ch) (he : REn M (r + 9) tb) (ht : M.it r 11 = nI tb.length) (hl : tb.length ≤ 3) (ho : spOK ch) (ho2 : ∀ z ∈ tb, spOK z.2) (hk48 : key < 48) (hk : k (some (.inl (oI (plO ch tb (some key))))) M) : XC (d + 1) 129 [.inr (some r), .inl (nI key)] M k := by
  have fin : ∀ (o : Option Nat) (z3 : Option mL), okO o → noG o = plO ch tb (some key) → X d 129 40 [some (.inr (some r)), some (.inl (nI key)), some (.inl (oI o)), z3] [] M k := by
    intro o z3 hoo e
    rw [← e] at hk
    cases o with
    | none =>
      refine vc_X 20 _ _ _ _ _ _ _ ?_
      simp only [↓v129_0, ↓v129_1, ↓v129_4, ↓v129_5, ↓v129_6, ↓v129_7, ↓v129_8, ↓v129_9, ↓v129_10, ↓v129_11, ↓v129_14, ↓v129_17, ↓v129_18, ↓v129_19, ↓v129_22, ↓v129_23, ↓v129_26, ↓v129_28, ↓v129_29, ↓v129_30, ↓v129_31, ↓v129_32, ↓v129_33, ↓v129_34, ↓v129_37, ↓v129_40, ↓v129_41, ↓v129_44, ↓v129_47, ↓v129_48, ↓v129_51, ↓v129_52, ↓qI_c, ↓qL_c, ↓qR_c, ↓pA_o, ↓qC_i, ↓qC_r, ↓oA_s, ↓gI_0, ↓gI_1, ↓gI_2, ↓gI_3, ↓gI_4, ↓gI_5, ↓gI_6, ↓gI_7, ↓gI_8, ↓gI_9, ↓gI_10, ↓gR_0, ↓gR_1, ↓gR_2, ↓gR_3, ↓gR_4, ↓gR_5, ↓gR_6, ↓gR_7, ↓gR_8, ↓gR_9, ↓gR_10, ↓sL_0, ↓sL_1, ↓sL_2, ↓sL_3, ↓sL_4, ↓sL_5, ↓sL_6, ↓sL_7, ↓sL_8, ↓sL_9, ↓sL_10, ↓rrf_si, ↓rrf_sg, ↓shO_si, ↓shO_sg, ↓shO_sr, ↓shA_si, ↓shA_sg, ↓shA_sr, ↓pAs_0, ↓pAs_i, ↓pAs_r, stk_n, stk_i, stk_l, stk_r, List.nil_append, List.cons_append, true_and, and_true, true_or, or_true, Nat.zero_add, dp_s, Nat.reduceAdd, le8_0, le8_1, le8_2, le8_3, le8_4, le8_5, le8_6, le8_7, le8_8, Classical.not_not, aT40, aT41, aT42, aT44, aT54, aT58, aT59, rT54, rT58, rT59, reduceIte, Nat.reduceEqDiff, qn_42, qn_44, true_implies, not_true_eq_false, not_false_eq_true, false_implies, oI_none]
      refine ⟨fun _ => hk, fun c => absurd c (by decide)⟩
    | some p =>
      have hp := hoo p rfl
      have e1 : oI (some p) = nI p := rfl
      by_cases c : p = 255
      · have hk : k (some (.inl (oI (if p = 255 then none else some p)))) M := hk
        rw [if_pos c] at hk
        refine vc_X 20 _ _ _ _ _ _ _ ?_
        simp only [↓v129_0, ↓v129_1, ↓v129_4, ↓v129_5, ↓v129_6, ↓v129_7, ↓v129_8, ↓v129_9, ↓v129_10, ↓v129_11, ↓v129_14, ↓v129_17, ↓v129_18, ↓v129_19, ↓v129_22, ↓v129_23, ↓v129_26, ↓v129_28, ↓v129_29, ↓v129_30, ↓v129_31, ↓v129_32, ↓v129_33, ↓v129_34, ↓v129_37, ↓v129_40, ↓v129_41, ↓v129_44, ↓v129_47, ↓v129_48, ↓v129_51, ↓v129_52, ↓qI_c, ↓qL_c, ↓qR_c, ↓pA_o, ↓qC_i, ↓qC_r, ↓oA_s, ↓gI_0, ↓gI_1, ↓gI_2, ↓gI_3, ↓gI_4, ↓gI_5, ↓gI_6, ↓gI_7, ↓gI_8, ↓gI_9, ↓gI_10, ↓gR_0, ↓gR_1, ↓gR_2, ↓gR_3, ↓gR_4, ↓gR_5, ↓gR_6, ↓gR_7, ↓gR_8, ↓gR_9, ↓gR_10, ↓sL_0, ↓sL_1, ↓sL_2, ↓sL_3, ↓sL_4, ↓sL_5, ↓sL_6, ↓sL_7, ↓sL_8, ↓sL_9, ↓sL_10, ↓rrf_si, ↓rrf_sg, ↓shO_si, ↓shO_sg, ↓shO_sr, ↓shA_si, ↓shA_sg, ↓shA_sr, ↓pAs_0, ↓pAs_i, ↓pAs_r, stk_n, stk_i, stk_l, stk_r, List.nil_append, List.cons_append, true_and, and_true, true_or, or_true, Nat.zero_add, dp_s, Nat.reduceAdd, le8_0, le8_1, le8_2, le8_3, le8_4, le8_5, le8_6, le8_7, le8_8, Classical.not_not, aT40, aT41, aT42, aT44, aT54, aT58, aT59, rT54, rT58, rT59, reduceIte, Nat.reduceEqDiff, qn_42, qn_44, true_implies, not_true_eq_false, not_false_eq_true, false_implies, e1]
        refine ⟨fun c2 => absurd (by rw [c]; rfl) c2, fun _ => hk⟩
      · have hk : k (some (.inl (oI (if p = 255 then none else some p)))) M := hk
        rw [if_neg c] at hk
        refine vc_X 20 _ _ _ _ _ _ _ ?_
        simp only [↓v129_0, ↓v129_1, ↓v129_4, ↓v129_5, ↓v129_6, ↓v129_7, ↓v129_8, ↓v129_9, ↓v129_10, ↓v129_11, ↓v129_14, ↓v129_17, ↓v129_18, ↓v129_19, ↓v129_22, ↓v129_23, ↓v129_26, ↓v129_28, ↓v129_29, ↓v129_30, ↓v129_31, ↓v129_32, ↓v129_33, ↓v129_34, ↓v129_37, ↓v129_40, ↓v129_41, ↓v129_44, ↓v129_47, ↓v129_48, ↓v129_51, ↓v129_52, ↓qI_c, ↓qL_c, ↓qR_c, ↓pA_o, ↓qC_i, ↓qC_r, ↓oA_s, ↓gI_0, ↓gI_1, ↓gI_2, ↓gI_3, ↓gI_4, ↓gI_5, ↓gI_6, ↓gI_7, ↓gI_8, ↓gI_9, ↓gI_10, ↓gR_0, ↓gR_1, ↓gR_2, ↓gR_3, ↓gR_4, ↓gR_5, ↓gR_6, ↓gR_7, ↓gR_8, ↓gR_9, ↓gR_10, ↓sL_0, ↓sL_1, ↓sL_2, ↓sL_3, ↓sL_4, ↓sL_5, ↓sL_6, ↓sL_7, ↓sL_8, ↓sL_9, ↓sL_10, ↓rrf_si, ↓rrf_sg, ↓shO_si, ↓shO_sg, ↓shO_sr, ↓shA_si, ↓shA_sg, ↓shA_sr, ↓pAs_0, ↓pAs_i, ↓pAs_r, stk_n, stk_i, stk_l, stk_r, List.nil_append, List.cons_append, true_and, and_true, true_or, or_true, Nat.zero_add, dp_s, Nat.reduceAdd, le8_0, le8_1, le8_2, le8_3, le8_4, le8_5, le8_6, le8_7, le8_8, Classical.not_not, aT40, aT41, aT42, aT44, aT54, aT58, aT59, rT54, rT58, rT59, reduceIte, Nat.reduceEqDiff, qn_42, qn_44, true_implies, not_true_eq_false, not_false_eq_true, false_implies, e1]
        refine ⟨fun _ => hk, fun c2 => ?_⟩
        rw [n_255, nI_eq (by omega) (by omega)] at c2
        exact absurd c2 c
  have lop : ∀ (l : TbT) (t : Nat) (o : Option Nat), tb.drop t = l → t + l.length = tb.length → okO o → noG (orO o (lkT l (some key))) = plO ch tb (some key) → X d 129 9 [some (.inr (some r)), some (.inl (nI key)), some (.inl (oI o)), some (.inl (nI t))] [] M k := by
    intro l
    induction l with
    | nil =>
      intro t o hd hl2 hoo e
      have et : t = tb.length := by simpa using hl2
      subst et
      refine vc_X 20 _ _ _ _ _ _ _ ?_
      simp only [↓v129_0, ↓v129_1, ↓v129_4, ↓v129_5, ↓v129_6, ↓v129_7, ↓v129_8, ↓v129_9, ↓v129_10, ↓v129_11, ↓v129_14, ↓v129_17, ↓v129_18, ↓v129_19, ↓v129_22, ↓v129_23, ↓v129_26, ↓v129_28, ↓v129_29, ↓v129_30, ↓v129_31, ↓v129_32, ↓v129_33, ↓v129_34, ↓v129_37, ↓v129_40, ↓v129_41, ↓v129_44, ↓v129_47, ↓v129_48, ↓v129_51, ↓v129_52, ↓qI_c, ↓qL_c, ↓qR_c, ↓pA_o, ↓qC_i, ↓qC_r, ↓oA_s, ↓gI_0, ↓gI_1, ↓gI_2, ↓gI_3, ↓gI_4, ↓gI_5, ↓gI_6, ↓gI_7, ↓gI_8, ↓gI_9, ↓gI_10, ↓gR_0, ↓gR_1, ↓gR_2, ↓gR_3, ↓gR_4, ↓gR_5, ↓gR_6, ↓gR_7, ↓gR_8, ↓gR_9, ↓gR_10, ↓sL_0, ↓sL_1, ↓sL_2, ↓sL_3, ↓sL_4, ↓sL_5, ↓sL_6, ↓sL_7, ↓sL_8, ↓sL_9, ↓sL_10, ↓rrf_si, ↓rrf_sg, ↓shO_si, ↓shO_sg, ↓shO_sr, ↓shA_si, ↓shA_sg, ↓shA_sr, ↓pAs_0, ↓pAs_i, ↓pAs_r, stk_n, stk_i, stk_l, stk_r, List.nil_append, List.cons_append, true_and, and_true, true_or, or_true, Nat.zero_add, dp_s, Nat.reduceAdd, le8_0, le8_1, le8_2, le8_3, le8_4, le8_5, le8_6, le8_7, le8_8, Classical.not_not, aT40, aT41, aT42, aT44, aT54, aT58, aT59, rT54, rT58, rT59, reduceIte, Nat.reduceEqDiff, qn_42, qn_44, true_implies, not_true_eq_false, not_false_eq_true, false_implies, le_T, nT (show tb.length < 2147483648 by omega), ↓shO_of hs.1.1, ht, Int.le_refl]
      refine fin o _ hoo ?_
      rw [← e]
      cases o <;> rfl
    | cons z l ih =>
      intro t o hd hl2 hoo e
      have ht2 : t < tb.length := by rw [List.length_cons] at hl2; omega
      have hzt : tb[t]? = some z := by
        have : (tb.drop t)[0]? = some z := by rw [hd]; rfl
        rw [List.getElem?_drop] at this
        exact this
      have hd2 : tb.drop (t + 1) = l := by
        have : (tb.drop t).drop 1 = l := by rw [hd]; rfl
        rw [List.drop_drop] at this
        exact this
      cases ho3 : o with
      | some p =>
        have e1 : oI (some p) = nI p := rfl
        have hp := hoo p ho3
        refine vc_X 20 _ _ _ _ _ _ _ ?_
        simp only [↓v129_0, ↓v129_1, ↓v129_4, ↓v129_5, ↓v129_6, ↓v129_7, ↓v129_8, ↓v129_9, ↓v129_10, ↓v129_11, ↓v129_14, ↓v129_17, ↓v129_18, ↓v129_19, ↓v129_22, ↓v129_23, ↓v129_26, ↓v129_28, ↓v129_29, ↓v129_30, ↓v129_31, ↓v129_32, ↓v129_33, ↓v129_34, ↓v129_37, ↓v129_40, ↓v129_41, ↓v129_44, ↓v129_47, ↓v129_48, ↓v129_51, ↓v129_52, ↓qI_c, ↓qL_c, ↓qR_c, ↓pA_o, ↓qC_i, ↓qC_r, ↓oA_s, ↓gI_0, ↓gI_1, ↓gI_2, ↓gI_3, ↓gI_4, ↓gI_5, ↓gI_6, ↓gI_7, ↓gI_8, ↓gI_9, ↓gI_10, ↓gR_0, ↓gR_1, ↓gR_2, ↓gR_3, ↓gR_4, ↓gR_5, ↓gR_6, ↓gR_7, ↓gR_8, ↓gR_9, ↓gR_10, ↓sL_0, ↓sL_1, ↓sL_2, ↓sL_3, ↓sL_4, ↓sL_5, ↓sL_6, ↓sL_7, ↓sL_8, ↓sL_9, ↓sL_10, ↓rrf_si, ↓rrf_sg, ↓shO_si, ↓shO_sg, ↓shO_sr, ↓shA_si, ↓shA_sg, ↓shA_sr, ↓pAs_0, ↓pAs_i, ↓pAs_r, stk_n, stk_i, stk_l, stk_r, List.nil_append, List.cons_append, true_and, and_true, true_or, or_true, Nat.zero_add, dp_s, Nat.reduceAdd, le8_0, le8_1, le8_2, le8_3, le8_4, le8_5, le8_6, le8_7, le8_8, Classical.not_not, aT40, aT41, aT42, aT44, aT54, aT58, aT59, rT54, rT58, rT59, reduceIte, Nat.reduceEqDiff, qn_42, qn_44, true_implies, not_true_eq_false, not_false_eq_true, false_implies, le_T, nT (show t < 2147483648 by omega), nT (show tb.length < 2147483648 by omega), ↓shO_of hs.1.1, ht, e1, nI_nm (show p < 2147483648 by omega) (show ((-1 : Int32)).toInt < 0 by decide)]
        refine ⟨fun c => by omega, fun _ => ?_⟩
        rw [← e1]
        refine fin (some p) _ (by rw [← ho3]; exact hoo) ?_
        rw [← e, ho3]
        rfl
      | none =>
        have e2 := he t z key hzt hk48
        have e3 : (48 : Int32) * nI t + nI key = nI (48 * t + key) := by rw [n_48, pk_mul, nI_add]
        refine vc_X 30 _ _ _ _ _ _ _ ?_
        simp only [↓v129_0, ↓v129_1, ↓v129_4, ↓v129_5, ↓v129_6, ↓v129_7, ↓v129_8, ↓v129_9, ↓v129_10, ↓v129_11, ↓v129_14, ↓v129_17, ↓v129_18, ↓v129_19, ↓v129_22, ↓v129_23, ↓v129_26, ↓v129_28, ↓v129_29, ↓v129_30, ↓v129_31, ↓v129_32, ↓v129_33, ↓v129_34, ↓v129_37, ↓v129_40, ↓v129_41, ↓v129_44, ↓v129_47, ↓v129_48, ↓v129_51, ↓v129_52, ↓qI_c, ↓qL_c, ↓qR_c, ↓pA_o, ↓qC_i, ↓qC_r, ↓oA_s, ↓gI_0, ↓gI_1, ↓gI_2, ↓gI_3, ↓gI_4, ↓gI_5, ↓gI_6, ↓gI_7, ↓gI_8, ↓gI_9, ↓gI_10, ↓gR_0, ↓gR_1, ↓gR_2, ↓gR_3, ↓gR_4, ↓gR_5, ↓gR_6, ↓gR_7, ↓gR_8, ↓gR_9, ↓gR_10, ↓sL_0, ↓sL_1, ↓sL_2, ↓sL_3, ↓sL_4, ↓sL_5, ↓sL_6, ↓sL_7, ↓sL_8, ↓sL_9, ↓sL_10, ↓rrf_si, ↓rrf_sg, ↓shO_si, ↓shO_sg, ↓shO_sr, ↓shA_si, ↓shA_sg, ↓shA_sr, ↓pAs_0, ↓pAs_i, ↓pAs_r, stk_n, stk_i, stk_l, stk_r, List.nil_append, List.cons_append, true_and, and_true, true_or, or_true, Nat.zero_add, dp_s, Nat.reduceAdd, le8_0, le8_1, le8_2, le8_3, le8_4, le8_5, le8_6, le8_7, le8_8, Classical.not_not, aT40, aT41, aT42, aT44, aT54, aT58, aT59, rT54, rT58, rT59, reduceIte, Nat.reduceEqDiff, qn_42, qn_44, true_implies, not_true_eq_false, not_false_eq_true, false_implies, le_T, nT (show t < 2147483648 by omega), nT (show tb.length < 2147483648 by omega), ↓shO_of hs.1.1, ht, oI_none, m11, ↓rrf_of hs.2.1.2.2.1, ↓shA_of hs.2.2.2.2.1.1, e3, nC (show 48 * t + key < 2147483648 by omega), e2, nI_1]
        refine ⟨fun c => by omega, fun _ => ⟨inB_n (by omega) (by omega), ?_⟩⟩
        refine ih (t + 1) (z.2 key) hd2 (by rw [List.length_cons] at hl2; omega) (fun p hp => ho2 z (List.mem_of_getElem? hzt) key p hk48 hp) ?_
        rw [← e, ho3]
        rfl
  refine xc ?_
  show X d 129 0 [some (.inr (some r)), some (.inl (nI key)), none, none] [] M k
  have h1 := hc key hk48
  refine vc_X 20 _ _ _ _ _ _ _ ?_
  simp only [↓v129_0, ↓v129_1, ↓v129_4, ↓v129_5, ↓v129_6, ↓v129_7, ↓v129_8, ↓v129_9, ↓v129_10, ↓v129_11, ↓v129_14, ↓v129_17, ↓v129_18, ↓v129_19, ↓v129_22, ↓v129_23, ↓v129_26, ↓v129_28, ↓v129_29, ↓v129_30, ↓v129_31, ↓v129_32, ↓v129_33, ↓v129_34, ↓v129_37, ↓v129_40, ↓v129_41, ↓v129_44, ↓v129_47, ↓v129_48, ↓v129_51, ↓v129_52, ↓qI_c, ↓qL_c, ↓qR_c, ↓pA_o, ↓qC_i, ↓qC_r, ↓oA_s, ↓gI_0, ↓gI_1, ↓gI_2, ↓gI_3, ↓gI_4, ↓gI_5, ↓gI_6, ↓gI_7, ↓gI_8, ↓gI_9, ↓gI_10, ↓gR_0, ↓gR_1, ↓gR_2, ↓gR_3, ↓gR_4, ↓gR_5, ↓gR_6, ↓gR_7, ↓gR_8, ↓gR_9, ↓gR_10, ↓sL_0, ↓sL_1, ↓sL_2, ↓sL_3, ↓sL_4, ↓sL_5, ↓sL_6, ↓sL_7, ↓sL_8, ↓sL_9, ↓sL_10, ↓rrf_si, ↓rrf_sg, ↓shO_si, ↓shO_sg, ↓shO_sr, ↓shA_si, ↓shA_sg, ↓shA_sr, ↓pAs_0, ↓pAs_i, ↓pAs_r, stk_n, stk_i, stk_l, stk_r, List.nil_append, List.cons_append, true_and, and_true, true_or, or_true, Nat.zero_add, dp_s, Nat.reduceAdd, le8_0, le8_1, le8_2, le8_3, le8_4, le8_5, le8_6, le8_7, le8_8, Classical.not_not, aT40, aT41, aT42, aT44, aT54, aT58, aT59, rT54, rT58, rT59, reduceIte, Nat.reduceEqDiff, qn_42, qn_44, true_implies, not_true_eq_false, not_false_eq_true, false_implies, ↓shO_of hs.1.1, ↓rrf_of hs.2.1.2.1, ↓shA_of hs.2.2.2.1.2.2.2.2.2.2.2, nC (show key < 2147483648 by omega), h1]
  refine ⟨inB_n (by omega) (by omega), ?_⟩
  exact lop tb 0 (ch key) rfl (by omega) (fun p hp => ho key p hk48 hp) rfl
