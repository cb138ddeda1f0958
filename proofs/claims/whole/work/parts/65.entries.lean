/-! Entries: of each key a place, gone (255), or nothing -/
def spI (o : Option Nat) : Int32 := match o with
  | none => -1
  | some p => if p = 255 then -2 else nI p
def En (M : Mm) (a s : Nat) : Prop := M.sh a = some (4, 0) ∧ M.rf a 0 = some s ∧ M.sh s = some (41, 48)
def spOK (sp : Nat → Option Nat) : Prop := ∀ k p, k < 48 → sp k = some p → p = 255 ∨ p < 128
def EnC (M : Mm) (a s : Nat) (sp : Nat → Option Nat) (pl : Option Nat) : Prop := En M a s ∧ (∀ k, k < 48 → M.it s k = spI (sp k)) ∧ spOK sp ∧ M.it a 1 = nI (cnt (fun k => (sp k).isSome) 48) ∧ M.it a 2 = oI pl
theorem En.ne {M : Mm} {a s : Nat} (h : En M a s) : a ≠ s := by
  obtain ⟨h1, -, h3⟩ := h
  intro e
  rw [e, h3] at h1
  cases h1
theorem En.keep {M M' : Mm} {A : List Nat} {a s : Nat} (h : En M a s) (o : On A M M') : En M' a s := by
  obtain ⟨h1, h2, h3⟩ := h
  exact ⟨by rw [o.1]; exact h1, by rw [o.2.2.2.2.1]; exact h2, by rw [o.1]; exact h3⟩
theorem EnC.keep {M M' : Mm} {A : List Nat} {a s : Nat} {sp : Nat → Option Nat} {pl : Option Nat} (h : EnC M a s sp pl) (o : On A M M') (ha : a ∉ A) (hs : s ∉ A) : EnC M' a s sp pl := by
  obtain ⟨h1, h2, h3, h4, h5⟩ := h
  exact ⟨h1.keep o, fun k hk => by rw [o.2.2.2.2.2 s hs]; exact h2 k hk, h3, by rw [o.2.2.2.2.2 a ha]; exact h4, by rw [o.2.2.2.2.2 a ha]; exact h5⟩
theorem On.fl {A : List Nat} {M M' : Mm} {a n : Nat} {x : Int32} (h : On A M M') (ha : a ∈ A) : On A M (M'.fl a n x) := by
  obtain ⟨h1, h2, h3, h4, h5, h6⟩ := h
  refine ⟨h1, h2, h3, h4, h5, fun y hy j => ?_⟩
  rw [fl_it, if_neg (fun q => hy (by rw [q.1]; exact ha))]
  exact h6 y hy j
theorem k11 {d : Nat} {M : Mm} {k : mQ} {a s : Nat} (h : En M a s) (hk : ∀ M', EnC M' a s (fun _ => none) none → On [a, s] M M' → k none M') : XC (d + 2) 11 [.inr (some a)] M k := by
  have hne := h.ne
  obtain ⟨b1, b2, b3⟩ := id h
  refine xc ?_
  show X (d + 1) 11 0 [some (.inr (some a))] [] M k
  refine vc_X 20 _ _ _ _ _ _ _ ?_
  simp only [↓v11_0, ↓v11_1, ↓v11_4, ↓v11_5, ↓v11_8, ↓v11_9, ↓v11_10, ↓v11_13, ↓v11_14, ↓v11_15, ↓v11_18, ↓qI_c, ↓qL_c, ↓qR_c, ↓pA_o, ↓qC_i, ↓qC_r, ↓oA_s, ↓gI_0, ↓gI_1, ↓gI_2, ↓gI_3, ↓gI_4, ↓gI_5, ↓gI_6, ↓gI_7, ↓gI_8, ↓gI_9, ↓gI_10, ↓gR_0, ↓gR_1, ↓gR_2, ↓gR_3, ↓gR_4, ↓gR_5, ↓gR_6, ↓gR_7, ↓gR_8, ↓gR_9, ↓gR_10, ↓sL_0, ↓sL_1, ↓sL_2, ↓sL_3, ↓sL_4, ↓sL_5, ↓sL_6, ↓sL_7, ↓sL_8, ↓sL_9, ↓sL_10, ↓rrf_si, ↓rrf_sg, ↓shO_si, ↓shO_sg, ↓shO_sr, ↓shA_si, ↓shA_sg, ↓shA_sr, ↓pAs_0, ↓pAs_i, ↓pAs_r, stk_n, stk_i, stk_l, stk_r, List.nil_append, List.cons_append, true_and, and_true, true_or, or_true, Nat.zero_add, dp_s, Nat.reduceAdd, le8_0, le8_1, le8_2, le8_3, le8_4, le8_5, le8_6, le8_7, le8_8, Classical.not_not, aT40, aT41, aT42, aT44, aT54, aT58, aT59, rT54, rT58, rT59, reduceIte, Nat.reduceEqDiff, qn_42, qn_44, true_implies, not_true_eq_false, not_false_eq_true, false_implies, ↓shO_of b1, ↓rrf_of b2]
  refine k12 b3 (by omega) ⟨rfl, ?_⟩
  have c1 : (M.fl s 48 (-1)).sh a = some (4, 0) := b1
  refine vc_X 20 _ _ _ _ _ _ _ ?_
  simp only [↓v11_0, ↓v11_1, ↓v11_4, ↓v11_5, ↓v11_8, ↓v11_9, ↓v11_10, ↓v11_13, ↓v11_14, ↓v11_15, ↓v11_18, ↓qI_c, ↓qL_c, ↓qR_c, ↓pA_o, ↓qC_i, ↓qC_r, ↓oA_s, ↓gI_0, ↓gI_1, ↓gI_2, ↓gI_3, ↓gI_4, ↓gI_5, ↓gI_6, ↓gI_7, ↓gI_8, ↓gI_9, ↓gI_10, ↓gR_0, ↓gR_1, ↓gR_2, ↓gR_3, ↓gR_4, ↓gR_5, ↓gR_6, ↓gR_7, ↓gR_8, ↓gR_9, ↓gR_10, ↓sL_0, ↓sL_1, ↓sL_2, ↓sL_3, ↓sL_4, ↓sL_5, ↓sL_6, ↓sL_7, ↓sL_8, ↓sL_9, ↓sL_10, ↓rrf_si, ↓rrf_sg, ↓shO_si, ↓shO_sg, ↓shO_sr, ↓shA_si, ↓shA_sg, ↓shA_sr, ↓pAs_0, ↓pAs_i, ↓pAs_r, stk_n, stk_i, stk_l, stk_r, List.nil_append, List.cons_append, true_and, and_true, true_or, or_true, Nat.zero_add, dp_s, Nat.reduceAdd, le8_0, le8_1, le8_2, le8_3, le8_4, le8_5, le8_6, le8_7, le8_8, Classical.not_not, aT40, aT41, aT42, aT44, aT54, aT58, aT59, rT54, rT58, rT59, reduceIte, Nat.reduceEqDiff, qn_42, qn_44, true_implies, not_true_eq_false, not_false_eq_true, false_implies, ↓shO_of c1]
  have o : On [a, s] M (((M.fl s 48 (-1)).si a 1 0).si a 2 (-1)) := ((On.rf_.fl (by simp)).put (by simp)).put (by simp)
  refine hk _ ⟨h.keep o, fun j hj => ?_, (fun j p _ q => by cases q), ?_, ?_⟩ o
  · rw [si_it, if_neg (fun q => hne q.1.symm), si_it, if_neg (fun q => hne q.1.symm), fl_it, if_pos ⟨rfl, hj⟩]
    rfl
  · rw [si_it, if_neg (fun q => by simp at q), si_it, if_pos ⟨rfl, rfl⟩]
    exact (congrArg nI (cnt_0 (fun k => ((fun _ => (none : Option Nat)) k).isSome) 48 (fun i _ => rfl))).symm
  · rw [si_it, if_pos ⟨rfl, rfl⟩]
    rfl
theorem k61 {d : Nat} {M : Mm} {k : mQ} {a s : Nat} {x : Int32} {sp : Nat → Option Nat} {pl : Option Nat} (h : EnC M a s sp pl) (h1 : ∀ j, j < 48 → x = nI j → k (some (.inl (spI (sp j)))) M) (h0 : ¬ inB x 48 → k (some (.inl (-1))) M) : XC (d + 2) 61 [.inr (some a), .inl x] M k := by
  obtain ⟨⟨b1, b2, b3⟩, g1, g2, g3, g4⟩ := h
  refine xc ?_
  show X (d + 1) 61 0 [some (.inr (some a)), some (.inl x)] [] M k
  refine vc_X 20 _ _ _ _ _ _ _ ?_
  simp only [↓v61_0, ↓v61_1, ↓v61_4, ↓v61_7, ↓v61_8, ↓v61_11, ↓v61_12, ↓v61_13, ↓v61_16, ↓v61_17, ↓qI_c, ↓qL_c, ↓qR_c, ↓pA_o, ↓qC_i, ↓qC_r, ↓oA_s, ↓gI_0, ↓gI_1, ↓gI_2, ↓gI_3, ↓gI_4, ↓gI_5, ↓gI_6, ↓gI_7, ↓gI_8, ↓gI_9, ↓gI_10, ↓gR_0, ↓gR_1, ↓gR_2, ↓gR_3, ↓gR_4, ↓gR_5, ↓gR_6, ↓gR_7, ↓gR_8, ↓gR_9, ↓gR_10, ↓sL_0, ↓sL_1, ↓sL_2, ↓sL_3, ↓sL_4, ↓sL_5, ↓sL_6, ↓sL_7, ↓sL_8, ↓sL_9, ↓sL_10, ↓rrf_si, ↓rrf_sg, ↓shO_si, ↓shO_sg, ↓shO_sr, ↓shA_si, ↓shA_sg, ↓shA_sr, ↓pAs_0, ↓pAs_i, ↓pAs_r, stk_n, stk_i, stk_l, stk_r, List.nil_append, List.cons_append, true_and, and_true, true_or, or_true, Nat.zero_add, dp_s, Nat.reduceAdd, le8_0, le8_1, le8_2, le8_3, le8_4, le8_5, le8_6, le8_7, le8_8, Classical.not_not, aT40, aT41, aT42, aT44, aT54, aT58, aT59, rT54, rT58, rT59, reduceIte, Nat.reduceEqDiff, qn_42, qn_44, true_implies, not_true_eq_false, not_false_eq_true, false_implies]
  refine k39 (fun c => ⟨1, rfl, ?_⟩) (fun c => ⟨0, rfl, ?_⟩)
  · obtain ⟨j, hj, rfl⟩ := inB_of c (by omega)
    refine vc_X 20 _ _ _ _ _ _ _ ?_
    simp only [↓v61_0, ↓v61_1, ↓v61_4, ↓v61_7, ↓v61_8, ↓v61_11, ↓v61_12, ↓v61_13, ↓v61_16, ↓v61_17, ↓qI_c, ↓qL_c, ↓qR_c, ↓pA_o, ↓qC_i, ↓qC_r, ↓oA_s, ↓gI_0, ↓gI_1, ↓gI_2, ↓gI_3, ↓gI_4, ↓gI_5, ↓gI_6, ↓gI_7, ↓gI_8, ↓gI_9, ↓gI_10, ↓gR_0, ↓gR_1, ↓gR_2, ↓gR_3, ↓gR_4, ↓gR_5, ↓gR_6, ↓gR_7, ↓gR_8, ↓gR_9, ↓gR_10, ↓sL_0, ↓sL_1, ↓sL_2, ↓sL_3, ↓sL_4, ↓sL_5, ↓sL_6, ↓sL_7, ↓sL_8, ↓sL_9, ↓sL_10, ↓rrf_si, ↓rrf_sg, ↓shO_si, ↓shO_sg, ↓shO_sr, ↓shA_si, ↓shA_sg, ↓shA_sr, ↓pAs_0, ↓pAs_i, ↓pAs_r, stk_n, stk_i, stk_l, stk_r, List.nil_append, List.cons_append, true_and, and_true, true_or, or_true, Nat.zero_add, dp_s, Nat.reduceAdd, le8_0, le8_1, le8_2, le8_3, le8_4, le8_5, le8_6, le8_7, le8_8, Classical.not_not, aT40, aT41, aT42, aT44, aT54, aT58, aT59, rT54, rT58, rT59, reduceIte, Nat.reduceEqDiff, qn_42, qn_44, true_implies, not_true_eq_false, not_false_eq_true, false_implies, i10, ↓shO_of b1, ↓rrf_of b2, ↓shA_of b3, nC (show j < 2147483648 by omega), g1 j hj]
    exact ⟨inB_n hj (by omega), h1 j hj rfl⟩
  · refine vc_X 20 _ _ _ _ _ _ _ ?_
    simp only [↓v61_0, ↓v61_1, ↓v61_4, ↓v61_7, ↓v61_8, ↓v61_11, ↓v61_12, ↓v61_13, ↓v61_16, ↓v61_17, ↓qI_c, ↓qL_c, ↓qR_c, ↓pA_o, ↓qC_i, ↓qC_r, ↓oA_s, ↓gI_0, ↓gI_1, ↓gI_2, ↓gI_3, ↓gI_4, ↓gI_5, ↓gI_6, ↓gI_7, ↓gI_8, ↓gI_9, ↓gI_10, ↓gR_0, ↓gR_1, ↓gR_2, ↓gR_3, ↓gR_4, ↓gR_5, ↓gR_6, ↓gR_7, ↓gR_8, ↓gR_9, ↓gR_10, ↓sL_0, ↓sL_1, ↓sL_2, ↓sL_3, ↓sL_4, ↓sL_5, ↓sL_6, ↓sL_7, ↓sL_8, ↓sL_9, ↓sL_10, ↓rrf_si, ↓rrf_sg, ↓shO_si, ↓shO_sg, ↓shO_sr, ↓shA_si, ↓shA_sg, ↓shA_sr, ↓pAs_0, ↓pAs_i, ↓pAs_r, stk_n, stk_i, stk_l, stk_r, List.nil_append, List.cons_append, true_and, and_true, true_or, or_true, Nat.zero_add, dp_s, Nat.reduceAdd, le8_0, le8_1, le8_2, le8_3, le8_4, le8_5, le8_6, le8_7, le8_8, Classical.not_not, aT40, aT41, aT42, aT44, aT54, aT58, aT59, rT54, rT58, rT59, reduceIte, Nat.reduceEqDiff, qn_42, qn_44, true_implies, not_true_eq_false, not_false_eq_true, false_implies, i00]
    exact h0 c
def ups (f : Nat → Option Nat) (k : Nat) (v : Option Nat) : Nat → Option Nat := fun j => if j = k then v else f j
theorem spI_none {o : Option Nat} (h : ∀ p, o = some p → p = 255 ∨ p < 128) : (spI o = -1) ↔ o = none := by
  cases o with
  | none => exact ⟨fun _ => rfl, fun _ => rfl⟩
  | some p =>
    constructor
    · intro q
      exfalso
      have q : (if p = 255 then (-2 : Int32) else nI p) = -1 := q
      by_cases hp : p = 255
      · rw [if_pos hp] at q
        exact absurd q (by decide)
      · rw [if_neg hp, eq_T, nT (by rcases h p rfl with r | r <;> omega), T_m1] at q
        omega
    · intro q; cases q
theorem cnt_ups {sp : Nat → Option Nat} {j p : Nat} : ∀ n, cnt (fun k => (ups sp j (some p) k).isSome) n = cnt (fun k => (sp k).isSome) n + (if j < n ∧ sp j = none then 1 else 0)
  | 0 => by simp [cnt]
  | n + 1 => by
    show cnt _ n + _ = cnt _ n + _ + _
    rw [cnt_ups n]
    by_cases hj : j = n
    · subst hj
      have e1 : ups sp j (some p) j = some p := if_pos rfl
      cases hs : sp j with
      | none => simp [e1, hs]
      | some q => simp [e1, hs]
    · have e1 : ups sp j (some p) n = sp n := if_neg (fun q => hj q.symm)
      simp only [e1]
      by_cases hc : j < n ∧ sp j = none
      · have h1 : j < n + 1 ∧ sp j = none := ⟨by omega, hc.2⟩
        rw [if_pos hc, if_pos h1]
        omega
      · have h1 : ¬ (j < n + 1 ∧ sp j = none) := fun q => hc ⟨by omega, q.2⟩
        rw [if_neg hc, if_neg h1]
        omega
theorem k38 {d : Nat} {M : Mm} {k : mQ} {a s j p : Nat} {sp : Nat → Option Nat} {pl : Option Nat} (h : EnC M a s sp pl) (hj : j < 48) (hp : p = 255 ∨ p < 128) (hk : ∀ M', EnC M' a s (ups sp j (some p)) pl → On [a, s] M M' → k none M') : XC (d + 2) 38 [.inr (some a), .inl (nI j), .inl (spI (some p))] M k := by
  have hne := h.1.ne
  obtain ⟨⟨b1, b2, b3⟩, g1, g2, g3, g4⟩ := id h
  refine xc ?_
  show X (d + 1) 38 0 [some (.inr (some a)), some (.inl (nI j)), some (.inl (spI (some p)))] [] M k
  refine vc_X 20 _ _ _ _ _ _ _ ?_
  simp only [↓v38_0, ↓v38_1, ↓v38_4, ↓v38_7, ↓v38_8, ↓v38_9, ↓v38_12, ↓v38_13, ↓v38_14, ↓v38_17, ↓v38_18, ↓v38_19, ↓v38_20, ↓v38_23, ↓v38_24, ↓v38_25, ↓v38_28, ↓v38_29, ↓v38_30, ↓v38_33, ↓v38_34, ↓v38_37, ↓v38_38, ↓v38_39, ↓v38_40, ↓qI_c, ↓qL_c, ↓qR_c, ↓pA_o, ↓qC_i, ↓qC_r, ↓oA_s, ↓gI_0, ↓gI_1, ↓gI_2, ↓gI_3, ↓gI_4, ↓gI_5, ↓gI_6, ↓gI_7, ↓gI_8, ↓gI_9, ↓gI_10, ↓gR_0, ↓gR_1, ↓gR_2, ↓gR_3, ↓gR_4, ↓gR_5, ↓gR_6, ↓gR_7, ↓gR_8, ↓gR_9, ↓gR_10, ↓sL_0, ↓sL_1, ↓sL_2, ↓sL_3, ↓sL_4, ↓sL_5, ↓sL_6, ↓sL_7, ↓sL_8, ↓sL_9, ↓sL_10, ↓rrf_si, ↓rrf_sg, ↓shO_si, ↓shO_sg, ↓shO_sr, ↓shA_si, ↓shA_sg, ↓shA_sr, ↓pAs_0, ↓pAs_i, ↓pAs_r, stk_n, stk_i, stk_l, stk_r, List.nil_append, List.cons_append, true_and, and_true, true_or, or_true, Nat.zero_add, dp_s, Nat.reduceAdd, le8_0, le8_1, le8_2, le8_3, le8_4, le8_5, le8_6, le8_7, le8_8, Classical.not_not, aT40, aT41, aT42, aT44, aT54, aT58, aT59, rT54, rT58, rT59, reduceIte, Nat.reduceEqDiff, qn_42, qn_44, true_implies, not_true_eq_false, not_false_eq_true, false_implies]
  refine k39 (fun _ => ⟨1, rfl, ?_⟩) (fun c => absurd (inB_n hj (by omega)) c)
  have e1 : ¬ spI (some p) = -1 := fun q => by
    have := (spI_none (o := some p) (fun p' q => by cases q; exact hp)).mp q
    cases this
  refine vc_X 40 _ _ _ _ _ _ _ ?_
  simp only [↓v38_0, ↓v38_1, ↓v38_4, ↓v38_7, ↓v38_8, ↓v38_9, ↓v38_12, ↓v38_13, ↓v38_14, ↓v38_17, ↓v38_18, ↓v38_19, ↓v38_20, ↓v38_23, ↓v38_24, ↓v38_25, ↓v38_28, ↓v38_29, ↓v38_30, ↓v38_33, ↓v38_34, ↓v38_37, ↓v38_38, ↓v38_39, ↓v38_40, ↓qI_c, ↓qL_c, ↓qR_c, ↓pA_o, ↓qC_i, ↓qC_r, ↓oA_s, ↓gI_0, ↓gI_1, ↓gI_2, ↓gI_3, ↓gI_4, ↓gI_5, ↓gI_6, ↓gI_7, ↓gI_8, ↓gI_9, ↓gI_10, ↓gR_0, ↓gR_1, ↓gR_2, ↓gR_3, ↓gR_4, ↓gR_5, ↓gR_6, ↓gR_7, ↓gR_8, ↓gR_9, ↓gR_10, ↓sL_0, ↓sL_1, ↓sL_2, ↓sL_3, ↓sL_4, ↓sL_5, ↓sL_6, ↓sL_7, ↓sL_8, ↓sL_9, ↓sL_10, ↓rrf_si, ↓rrf_sg, ↓shO_si, ↓shO_sg, ↓shO_sr, ↓shA_si, ↓shA_sg, ↓shA_sr, ↓pAs_0, ↓pAs_i, ↓pAs_r, stk_n, stk_i, stk_l, stk_r, List.nil_append, List.cons_append, true_and, and_true, true_or, or_true, Nat.zero_add, dp_s, Nat.reduceAdd, le8_0, le8_1, le8_2, le8_3, le8_4, le8_5, le8_6, le8_7, le8_8, Classical.not_not, aT40, aT41, aT42, aT44, aT54, aT58, aT59, rT54, rT58, rT59, reduceIte, Nat.reduceEqDiff, qn_42, qn_44, true_implies, not_true_eq_false, not_false_eq_true, false_implies, i10, e1, ↓shO_of b1, ↓rrf_of b2, ↓shA_of b3, nC (show j < 2147483648 by omega), g1 j hj, g3, nI_1, spI_none (g2 j · hj)]
  have hc := cnt_le (fun k => (sp k).isSome) 48
  have fin : ∀ M1, M1.it a 1 = nI (cnt (fun k => (ups sp j (some p) k).isSome) 48) → M1.it a 2 = oI pl → On [a] M M1 → k none (M1.si s j (spI (some p))) := by
    intro M1 q1 q2 o1
    have o : On [a, s] M (M1.si s j (spI (some p))) := (o1.mono (by simp)).put (by simp)
    refine hk _ ⟨h.1.keep o, fun i hi => ?_, fun i p' hi q => ?_, ?_, ?_⟩ o
    · rw [si_it]
      unfold ups
      by_cases hij : i = j
      · rw [if_pos ⟨rfl, hij⟩, if_pos hij]
      · rw [if_neg (fun q => hij q.2), if_neg hij, o1.2.2.2.2.2 s (by simp [Ne.symm hne])]
        exact g1 i hi
    · unfold ups at q
      by_cases hij : i = j
      · rw [if_pos hij] at q
        cases q
        exact hp
      · rw [if_neg hij] at q
        exact g2 i p' hi q
    · rw [si_it, if_neg (fun q => hne q.1)]
      exact q1
    · rw [si_it, if_neg (fun q => hne q.1)]
      exact q2
  refine ⟨inB_n hj (by omega), fun c => ⟨inB_n hj (by omega), ?_⟩, fun c => ⟨inB_n hj (by omega), ?_⟩⟩
  · refine fin M ?_ g4 On.rf_
    rw [cnt_ups, if_neg (fun q => c q.2)]
    exact g3
  · refine fin (M.si a 1 _) ?_ ?_ (On.rf_.put (by simp))
    · rw [si_it, if_pos ⟨rfl, rfl⟩, cnt_ups, if_pos ⟨hj, c⟩]
    · rw [si_it, if_neg (fun q => by simp at q)]
      exact g4
