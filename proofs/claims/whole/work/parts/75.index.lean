/-! Index: at x; changes x + 1 (x + 2), tables' row x + 3; four Entries at x + 4 + 2 s (their spots behind them), s = im t for table t, s = im 3 for the fresh one -/
abbrev TbT : Type := List (Nat × (Nat → Option Nat))
def IxS (M : Mm) (x : Nat) (im : Nat → Nat) : Prop := M.sh x = some (5, 0) ∧ M.rf x 0 = some (x + 1) ∧ M.rf x 1 = some (x + 3) ∧ M.rf x 3 = some (x + 4 + 2 * im 3) ∧ M.sh (x + 3) = some (54, 3) ∧ (∀ t, t < 3 → M.rf (x + 3) t = some (x + 4 + 2 * im t)) ∧ (∀ t, t < 4 → im t < 4) ∧ (∀ t u, t < 4 → u < 4 → im t = im u → t = u) ∧ (∀ s, s < 4 → En M (x + 4 + 2 * s) (x + 5 + 2 * s))
def IxC (M : Mm) (x : Nat) (im : Nat → Nat) (ch : Nat → Option Nat) (tb : TbT) : Prop := IxS M x im ∧ EnC M (x + 1) (x + 2) ch none ∧ M.it x 2 = nI tb.length ∧ tb.length ≤ 3 ∧ ∀ t z, tb[t]? = some z → EnC M (x + 4 + 2 * im t) (x + 5 + 2 * im t) z.2 (some z.1) ∧ z.1 < 128
def PX (x : Nat) : Nat → Prop := fun y => x ≤ y ∧ y < x + 12
def keyOf (x : Int32) : Option Nat := if 0 ≤ x.toInt ∧ x.toInt < 48 then some x.toInt.toNat else none
theorem keyOf_n {j : Nat} (h : j < 48) : keyOf (nI j) = some j := by
  unfold keyOf
  rw [nT (by omega), if_pos (by omega)]
  simp
theorem keyOf_no {x : Int32} (h : ¬ inB x 48) : keyOf x = none := by
  unfold keyOf
  exact if_neg h
theorem keyOf_lt {x : Int32} {j : Nat} (h : keyOf x = some j) : j < 48 ∧ x = nI j := by
  unfold keyOf at h
  split at h
  · rename_i hc
    obtain ⟨i, hi, rfl⟩ := inB_of (x := x) (n := 48) hc (by omega)
    rw [nT (by omega)] at h
    have : i = j := by simpa using h
    exact ⟨by omega, by rw [this]⟩
  · cases h
theorem k61k {d : Nat} {M : Mm} {k : mQ} {a s : Nat} {x : Int32} {sp : Nat → Option Nat} {pl : Option Nat} (h : EnC M a s sp pl) (hk : k (some (.inl (spI ((keyOf x).bind sp)))) M) : XC (d + 2) 61 [.inr (some a), .inl x] M k := by
  refine k61 h (fun j hj e => ?_) (fun c => ?_)
  · subst e
    rw [keyOf_n hj] at hk
    exact hk
  · rw [keyOf_no c] at hk
    exact hk
def orO (a b : Option Nat) : Option Nat := match a with
  | some p => some p
  | none => b
def lkT : TbT → Option Nat → Option Nat
  | [], _ => none
  | z :: r, k => orO (k.bind z.2) (lkT r k)
def noG (o : Option Nat) : Option Nat := match o with
  | some p => if p = 255 then none else some p
  | none => none
def lkS (ch : Nat → Option Nat) (tb : TbT) (k : Option Nat) : Option Nat := orO (k.bind ch) (lkT tb k)
def plO (ch : Nat → Option Nat) (tb : TbT) (k : Option Nat) : Option Nat := noG (lkS ch tb k)
def okO (o : Option Nat) : Prop := ∀ p, o = some p → p = 255 ∨ p < 128
theorem okO_or {a b : Option Nat} (ha : okO a) (hb : okO b) : okO (orO a b) := by
  cases a with
  | some p => exact ha
  | none => exact hb
theorem noG_lt {o : Option Nat} (h : okO o) {p : Nat} (hp : noG o = some p) : p < 128 := by
  cases o with
  | none => cases hp
  | some q =>
    have hq := h q rfl
    have hp : (if q = 255 then none else some q) = some p := hp
    by_cases h2 : q = 255
    · rw [if_pos h2] at hp; cases hp
    · rw [if_neg h2] at hp
      cases hp
      omega
theorem keyO_ok {sp : Nat → Option Nat} (h : spOK sp) (x : Int32) : okO ((keyOf x).bind sp) := by
  intro p hp
  cases hk : keyOf x with
  | none => rw [hk] at hp; cases hp
  | some j =>
    rw [hk] at hp
    exact h j p (keyOf_lt hk).1 hp
theorem lkT_ok {M : Mm} {x : Nat} {im : Nat → Nat} {ch : Nat → Option Nat} {tb : TbT} (h : IxC M x im ch tb) (y : Int32) : ∀ m t, t + m = tb.length → okO (lkT (tb.drop t) (keyOf y)) := by
  intro m
  induction m with
  | zero =>
    intro t ht p hp
    rw [List.drop_eq_nil_of_le (by omega)] at hp
    cases hp
  | succ m ih =>
    intro t ht
    have hlt : t < tb.length := by omega
    rw [List.drop_eq_getElem_cons hlt]
    have hz := (h.2.2.2.2 t _ (List.getElem?_eq_getElem hlt)).1
    exact okO_or (keyO_ok hz.2.2.1 y) (ih (t + 1) (by omega))
theorem plO_lt {M : Mm} {x : Nat} {im : Nat → Nat} {ch : Nat → Option Nat} {tb : TbT} (h : IxC M x im ch tb) {j p : Nat} (hj : j < 48) (hp : plO ch tb (some j) = some p) : p < 128 := by
  refine noG_lt ?_ hp
  unfold lkS
  have := lkT_ok h (nI j) tb.length 0 (by omega)
  rw [keyOf_n hj] at this
  exact okO_or (fun p hp => h.2.1.2.2.1 j p hj hp) this
theorem plO_lt2 {M : Mm} {x : Nat} {im : Nat → Nat} {ch : Nat → Option Nat} {tb : TbT} (h : IxC M x im ch tb) {y : Int32} {p : Nat} (hp : plO ch tb (keyOf y) = some p) : p < 128 := by
  cases hk : keyOf y with
  | none =>
    exfalso
    rw [hk] at hp
    have : ∀ l : TbT, lkT l none = none := by
      intro l
      induction l with
      | nil => rfl
      | cons z r ih => exact ih
    unfold plO lkS at hp
    rw [this] at hp
    cases hp
  | some j =>
    rw [hk] at hp
    exact plO_lt h (keyOf_lt hk).1 hp
theorem e60 {d : Nat} {M : Mm} {k : mQ} {a z1 z3 : Option mL} {o : Option Nat} (ho : okO o) (hk : k (some (.inl (oI (noG o)))) M) : X d 60 46 [a, z1, some (.inl (spI o)), z3] [] M k := by
  cases o with
  | none =>
    have e : spI none = -1 := rfl
    rw [e]
    have m12 : ((-1 : Int32) = -2) = False := eq_false (by decide)
    refine vc_X 20 _ _ _ _ _ _ _ ?_
    simp only [↓v60_0, ↓v60_1, ↓v60_4, ↓v60_5, ↓v60_8, ↓v60_9, ↓v60_10, ↓v60_11, ↓v60_12, ↓v60_13, ↓v60_16, ↓v60_19, ↓v60_20, ↓v60_21, ↓v60_24, ↓v60_25, ↓v60_26, ↓v60_29, ↓v60_30, ↓v60_33, ↓v60_34, ↓v60_35, ↓v60_36, ↓v60_39, ↓v60_40, ↓v60_43, ↓v60_46, ↓v60_47, ↓v60_49, ↓v60_52, ↓v60_53, ↓v60_56, ↓v60_57, ↓qI_c, ↓qL_c, ↓qR_c, ↓pA_o, ↓qC_i, ↓qC_r, ↓oA_s, ↓gI_0, ↓gI_1, ↓gI_2, ↓gI_3, ↓gI_4, ↓gI_5, ↓gI_6, ↓gI_7, ↓gI_8, ↓gI_9, ↓gI_10, ↓gR_0, ↓gR_1, ↓gR_2, ↓gR_3, ↓gR_4, ↓gR_5, ↓gR_6, ↓gR_7, ↓gR_8, ↓gR_9, ↓gR_10, ↓sL_0, ↓sL_1, ↓sL_2, ↓sL_3, ↓sL_4, ↓sL_5, ↓sL_6, ↓sL_7, ↓sL_8, ↓sL_9, ↓sL_10, ↓rrf_si, ↓rrf_sg, ↓shO_si, ↓shO_sg, ↓shO_sr, ↓shA_si, ↓shA_sg, ↓shA_sr, ↓pAs_0, ↓pAs_i, ↓pAs_r, stk_n, stk_i, stk_l, stk_r, List.nil_append, List.cons_append, true_and, and_true, true_or, or_true, Nat.zero_add, dp_s, Nat.reduceAdd, le8_0, le8_1, le8_2, le8_3, le8_4, le8_5, le8_6, le8_7, le8_8, Classical.not_not, aT40, aT41, aT42, aT44, aT54, aT58, aT59, rT54, rT58, rT59, reduceIte, Nat.reduceEqDiff, qn_42, qn_44, true_implies, not_true_eq_false, not_false_eq_true, false_implies, m12]
    exact hk
  | some p =>
    have e : spI (some p) = (if p = 255 then -2 else nI p) := rfl
    have e2 : noG (some p) = (if p = 255 then none else some p) := rfl
    rw [e]
    rw [e2] at hk
    by_cases hp : p = 255
    · rw [if_pos hp]
      rw [if_pos hp] at hk
      refine vc_X 20 _ _ _ _ _ _ _ ?_
      simp only [↓v60_0, ↓v60_1, ↓v60_4, ↓v60_5, ↓v60_8, ↓v60_9, ↓v60_10, ↓v60_11, ↓v60_12, ↓v60_13, ↓v60_16, ↓v60_19, ↓v60_20, ↓v60_21, ↓v60_24, ↓v60_25, ↓v60_26, ↓v60_29, ↓v60_30, ↓v60_33, ↓v60_34, ↓v60_35, ↓v60_36, ↓v60_39, ↓v60_40, ↓v60_43, ↓v60_46, ↓v60_47, ↓v60_49, ↓v60_52, ↓v60_53, ↓v60_56, ↓v60_57, ↓qI_c, ↓qL_c, ↓qR_c, ↓pA_o, ↓qC_i, ↓qC_r, ↓oA_s, ↓gI_0, ↓gI_1, ↓gI_2, ↓gI_3, ↓gI_4, ↓gI_5, ↓gI_6, ↓gI_7, ↓gI_8, ↓gI_9, ↓gI_10, ↓gR_0, ↓gR_1, ↓gR_2, ↓gR_3, ↓gR_4, ↓gR_5, ↓gR_6, ↓gR_7, ↓gR_8, ↓gR_9, ↓gR_10, ↓sL_0, ↓sL_1, ↓sL_2, ↓sL_3, ↓sL_4, ↓sL_5, ↓sL_6, ↓sL_7, ↓sL_8, ↓sL_9, ↓sL_10, ↓rrf_si, ↓rrf_sg, ↓shO_si, ↓shO_sg, ↓shO_sr, ↓shA_si, ↓shA_sg, ↓shA_sr, ↓pAs_0, ↓pAs_i, ↓pAs_r, stk_n, stk_i, stk_l, stk_r, List.nil_append, List.cons_append, true_and, and_true, true_or, or_true, Nat.zero_add, dp_s, Nat.reduceAdd, le8_0, le8_1, le8_2, le8_3, le8_4, le8_5, le8_6, le8_7, le8_8, Classical.not_not, aT40, aT41, aT42, aT44, aT54, aT58, aT59, rT54, rT58, rT59, reduceIte, Nat.reduceEqDiff, qn_42, qn_44, true_implies, not_true_eq_false, not_false_eq_true, false_implies, m22]
      exact hk
    · have hp2 := ho p rfl
      rw [if_neg hp]
      rw [if_neg hp] at hk
      refine vc_X 20 _ _ _ _ _ _ _ ?_
      simp only [↓v60_0, ↓v60_1, ↓v60_4, ↓v60_5, ↓v60_8, ↓v60_9, ↓v60_10, ↓v60_11, ↓v60_12, ↓v60_13, ↓v60_16, ↓v60_19, ↓v60_20, ↓v60_21, ↓v60_24, ↓v60_25, ↓v60_26, ↓v60_29, ↓v60_30, ↓v60_33, ↓v60_34, ↓v60_35, ↓v60_36, ↓v60_39, ↓v60_40, ↓v60_43, ↓v60_46, ↓v60_47, ↓v60_49, ↓v60_52, ↓v60_53, ↓v60_56, ↓v60_57, ↓qI_c, ↓qL_c, ↓qR_c, ↓pA_o, ↓qC_i, ↓qC_r, ↓oA_s, ↓gI_0, ↓gI_1, ↓gI_2, ↓gI_3, ↓gI_4, ↓gI_5, ↓gI_6, ↓gI_7, ↓gI_8, ↓gI_9, ↓gI_10, ↓gR_0, ↓gR_1, ↓gR_2, ↓gR_3, ↓gR_4, ↓gR_5, ↓gR_6, ↓gR_7, ↓gR_8, ↓gR_9, ↓gR_10, ↓sL_0, ↓sL_1, ↓sL_2, ↓sL_3, ↓sL_4, ↓sL_5, ↓sL_6, ↓sL_7, ↓sL_8, ↓sL_9, ↓sL_10, ↓rrf_si, ↓rrf_sg, ↓shO_si, ↓shO_sg, ↓shO_sr, ↓shA_si, ↓shA_sg, ↓shA_sr, ↓pAs_0, ↓pAs_i, ↓pAs_r, stk_n, stk_i, stk_l, stk_r, List.nil_append, List.cons_append, true_and, and_true, true_or, or_true, Nat.zero_add, dp_s, Nat.reduceAdd, le8_0, le8_1, le8_2, le8_3, le8_4, le8_5, le8_6, le8_7, le8_8, Classical.not_not, aT40, aT41, aT42, aT44, aT54, aT58, aT59, rT54, rT58, rT59, reduceIte, Nat.reduceEqDiff, qn_42, qn_44, true_implies, not_true_eq_false, not_false_eq_true, false_implies, nI_nm (show p < 2147483648 by omega) (show (-2 : Int32).toInt < 0 by decide)]
      exact hk
theorem lop60 {d : Nat} {M : Mm} {k : mQ} {x : Nat} {y : Int32} {im : Nat → Nat} {ch : Nat → Option Nat} {tb : TbT} (h : IxC M x im ch tb) : ∀ m t o, t + m = tb.length → okO o → k (some (.inl (oI (noG (orO o (lkT (tb.drop t) (keyOf y))))))) M → X (d + 2) 60 11 [some (.inr (some x)), some (.inl y), some (.inl (spI o)), some (.inl (nI t))] [] M k := by
  obtain ⟨⟨b1, b2, b3, b4, b5, b6, b7, b8, b9⟩, g1, g2, g3, g4⟩ := id h
  intro m
  induction m with
  | zero =>
    intro t o ht ho hk
    rw [List.drop_eq_nil_of_le (by omega)] at hk
    have e : orO o (lkT [] (keyOf y)) = o := by cases o <;> rfl
    rw [e] at hk
    have fin : X (d + 2) 60 46 [some (.inr (some x)), some (.inl y), some (.inl (spI o)), some (.inl (nI t))] [] M k := e60 ho hk
    refine vc_X 30 _ _ _ _ _ _ _ ?_
    simp only [↓v60_0, ↓v60_1, ↓v60_4, ↓v60_5, ↓v60_8, ↓v60_9, ↓v60_10, ↓v60_11, ↓v60_12, ↓v60_13, ↓v60_16, ↓v60_19, ↓v60_20, ↓v60_21, ↓v60_24, ↓v60_25, ↓v60_26, ↓v60_29, ↓v60_30, ↓v60_33, ↓v60_34, ↓v60_35, ↓v60_36, ↓v60_39, ↓v60_40, ↓v60_43, ↓v60_46, ↓v60_47, ↓v60_49, ↓v60_52, ↓v60_53, ↓v60_56, ↓v60_57, ↓qI_c, ↓qL_c, ↓qR_c, ↓pA_o, ↓qC_i, ↓qC_r, ↓oA_s, ↓gI_0, ↓gI_1, ↓gI_2, ↓gI_3, ↓gI_4, ↓gI_5, ↓gI_6, ↓gI_7, ↓gI_8, ↓gI_9, ↓gI_10, ↓gR_0, ↓gR_1, ↓gR_2, ↓gR_3, ↓gR_4, ↓gR_5, ↓gR_6, ↓gR_7, ↓gR_8, ↓gR_9, ↓gR_10, ↓sL_0, ↓sL_1, ↓sL_2, ↓sL_3, ↓sL_4, ↓sL_5, ↓sL_6, ↓sL_7, ↓sL_8, ↓sL_9, ↓sL_10, ↓rrf_si, ↓rrf_sg, ↓shO_si, ↓shO_sg, ↓shO_sr, ↓shA_si, ↓shA_sg, ↓shA_sr, ↓pAs_0, ↓pAs_i, ↓pAs_r, stk_n, stk_i, stk_l, stk_r, List.nil_append, List.cons_append, true_and, and_true, true_or, or_true, Nat.zero_add, dp_s, Nat.reduceAdd, le8_0, le8_1, le8_2, le8_3, le8_4, le8_5, le8_6, le8_7, le8_8, Classical.not_not, aT40, aT41, aT42, aT44, aT54, aT58, aT59, rT54, rT58, rT59, reduceIte, Nat.reduceEqDiff, qn_42, qn_44, true_implies, not_true_eq_false, not_false_eq_true, false_implies, ↓shO_of b1, g2, le_T, nT (show t < 2147483648 by omega), nT (show tb.length < 2147483648 by omega)]
    exact ⟨fun _ => fin, fun c => by omega⟩
  | succ m ih =>
    intro t o ht ho hk
    have hlt : t < tb.length := by omega
    have hz := (g4 t _ (List.getElem?_eq_getElem hlt)).1
    have b6' : M.rf (x + 3) (nI t).toNatClampNeg = some (x + 4 + 2 * im t) := by rw [nC (by omega)]; exact b6 t (by omega)
    cases o with
    | some p =>
      have fin : X (d + 2) 60 46 [some (.inr (some x)), some (.inl y), some (.inl (spI (some p))), some (.inl (nI t))] [] M k := e60 ho hk
      have hn : (spI (some p) = -1) = False := eq_false (fun q => by cases (spI_none ho).mp q)
      refine vc_X 30 _ _ _ _ _ _ _ ?_
      simp only [↓v60_0, ↓v60_1, ↓v60_4, ↓v60_5, ↓v60_8, ↓v60_9, ↓v60_10, ↓v60_11, ↓v60_12, ↓v60_13, ↓v60_16, ↓v60_19, ↓v60_20, ↓v60_21, ↓v60_24, ↓v60_25, ↓v60_26, ↓v60_29, ↓v60_30, ↓v60_33, ↓v60_34, ↓v60_35, ↓v60_36, ↓v60_39, ↓v60_40, ↓v60_43, ↓v60_46, ↓v60_47, ↓v60_49, ↓v60_52, ↓v60_53, ↓v60_56, ↓v60_57, ↓qI_c, ↓qL_c, ↓qR_c, ↓pA_o, ↓qC_i, ↓qC_r, ↓oA_s, ↓gI_0, ↓gI_1, ↓gI_2, ↓gI_3, ↓gI_4, ↓gI_5, ↓gI_6, ↓gI_7, ↓gI_8, ↓gI_9, ↓gI_10, ↓gR_0, ↓gR_1, ↓gR_2, ↓gR_3, ↓gR_4, ↓gR_5, ↓gR_6, ↓gR_7, ↓gR_8, ↓gR_9, ↓gR_10, ↓sL_0, ↓sL_1, ↓sL_2, ↓sL_3, ↓sL_4, ↓sL_5, ↓sL_6, ↓sL_7, ↓sL_8, ↓sL_9, ↓sL_10, ↓rrf_si, ↓rrf_sg, ↓shO_si, ↓shO_sg, ↓shO_sr, ↓shA_si, ↓shA_sg, ↓shA_sr, ↓pAs_0, ↓pAs_i, ↓pAs_r, stk_n, stk_i, stk_l, stk_r, List.nil_append, List.cons_append, true_and, and_true, true_or, or_true, Nat.zero_add, dp_s, Nat.reduceAdd, le8_0, le8_1, le8_2, le8_3, le8_4, le8_5, le8_6, le8_7, le8_8, Classical.not_not, aT40, aT41, aT42, aT44, aT54, aT58, aT59, rT54, rT58, rT59, reduceIte, Nat.reduceEqDiff, qn_42, qn_44, true_implies, not_true_eq_false, not_false_eq_true, false_implies, ↓shO_of b1, g2, le_T, nT (show t < 2147483648 by omega), nT (show tb.length < 2147483648 by omega), T_3, hn]
      exact ⟨fun _ => fin, fun _ => ⟨fun _ => fin, fun _ => fin⟩⟩
    | none =>
      have e : spI none = -1 := rfl
      rw [e]
      refine vc_X 30 _ _ _ _ _ _ _ ?_
      simp only [↓v60_0, ↓v60_1, ↓v60_4, ↓v60_5, ↓v60_8, ↓v60_9, ↓v60_10, ↓v60_11, ↓v60_12, ↓v60_13, ↓v60_16, ↓v60_19, ↓v60_20, ↓v60_21, ↓v60_24, ↓v60_25, ↓v60_26, ↓v60_29, ↓v60_30, ↓v60_33, ↓v60_34, ↓v60_35, ↓v60_36, ↓v60_39, ↓v60_40, ↓v60_43, ↓v60_46, ↓v60_47, ↓v60_49, ↓v60_52, ↓v60_53, ↓v60_56, ↓v60_57, ↓qI_c, ↓qL_c, ↓qR_c, ↓pA_o, ↓qC_i, ↓qC_r, ↓oA_s, ↓gI_0, ↓gI_1, ↓gI_2, ↓gI_3, ↓gI_4, ↓gI_5, ↓gI_6, ↓gI_7, ↓gI_8, ↓gI_9, ↓gI_10, ↓gR_0, ↓gR_1, ↓gR_2, ↓gR_3, ↓gR_4, ↓gR_5, ↓gR_6, ↓gR_7, ↓gR_8, ↓gR_9, ↓gR_10, ↓sL_0, ↓sL_1, ↓sL_2, ↓sL_3, ↓sL_4, ↓sL_5, ↓sL_6, ↓sL_7, ↓sL_8, ↓sL_9, ↓sL_10, ↓rrf_si, ↓rrf_sg, ↓shO_si, ↓shO_sg, ↓shO_sr, ↓shA_si, ↓shA_sg, ↓shA_sr, ↓pAs_0, ↓pAs_i, ↓pAs_r, stk_n, stk_i, stk_l, stk_r, List.nil_append, List.cons_append, true_and, and_true, true_or, or_true, Nat.zero_add, dp_s, Nat.reduceAdd, le8_0, le8_1, le8_2, le8_3, le8_4, le8_5, le8_6, le8_7, le8_8, Classical.not_not, aT40, aT41, aT42, aT44, aT54, aT58, aT59, rT54, rT58, rT59, reduceIte, Nat.reduceEqDiff, qn_42, qn_44, true_implies, not_true_eq_false, not_false_eq_true, false_implies, ↓shO_of b1, g2, le_T, nT (show t < 2147483648 by omega), nT (show tb.length < 2147483648 by omega), T_3, m11, ↓rrf_of b3, ↓shA_of b5, ↓rrf_of b6', ↓shO_of hz.1.1]
      refine ⟨fun c => by omega, fun _ => ⟨fun c => by omega, fun _ => ⟨inB_n (by omega) (by omega), ?_⟩⟩⟩
      refine k61k hz ⟨_, rfl, ?_⟩
      refine vc_X 30 _ _ _ _ _ _ _ ?_
      simp only [↓v60_0, ↓v60_1, ↓v60_4, ↓v60_5, ↓v60_8, ↓v60_9, ↓v60_10, ↓v60_11, ↓v60_12, ↓v60_13, ↓v60_16, ↓v60_19, ↓v60_20, ↓v60_21, ↓v60_24, ↓v60_25, ↓v60_26, ↓v60_29, ↓v60_30, ↓v60_33, ↓v60_34, ↓v60_35, ↓v60_36, ↓v60_39, ↓v60_40, ↓v60_43, ↓v60_46, ↓v60_47, ↓v60_49, ↓v60_52, ↓v60_53, ↓v60_56, ↓v60_57, ↓qI_c, ↓qL_c, ↓qR_c, ↓pA_o, ↓qC_i, ↓qC_r, ↓oA_s, ↓gI_0, ↓gI_1, ↓gI_2, ↓gI_3, ↓gI_4, ↓gI_5, ↓gI_6, ↓gI_7, ↓gI_8, ↓gI_9, ↓gI_10, ↓gR_0, ↓gR_1, ↓gR_2, ↓gR_3, ↓gR_4, ↓gR_5, ↓gR_6, ↓gR_7, ↓gR_8, ↓gR_9, ↓gR_10, ↓sL_0, ↓sL_1, ↓sL_2, ↓sL_3, ↓sL_4, ↓sL_5, ↓sL_6, ↓sL_7, ↓sL_8, ↓sL_9, ↓sL_10, ↓rrf_si, ↓rrf_sg, ↓shO_si, ↓shO_sg, ↓shO_sr, ↓shA_si, ↓shA_sg, ↓shA_sr, ↓pAs_0, ↓pAs_i, ↓pAs_r, stk_n, stk_i, stk_l, stk_r, List.nil_append, List.cons_append, true_and, and_true, true_or, or_true, Nat.zero_add, dp_s, Nat.reduceAdd, le8_0, le8_1, le8_2, le8_3, le8_4, le8_5, le8_6, le8_7, le8_8, Classical.not_not, aT40, aT41, aT42, aT44, aT54, aT58, aT59, rT54, rT58, rT59, reduceIte, Nat.reduceEqDiff, qn_42, qn_44, true_implies, not_true_eq_false, not_false_eq_true, false_implies, nI_1]
      refine ih (t + 1) _ (by omega) (keyO_ok hz.2.2.1 y) ?_
      rw [List.drop_eq_getElem_cons hlt] at hk
      exact hk
theorem k60 {d : Nat} {M : Mm} {k : mQ} {x : Nat} {y : Int32} {im : Nat → Nat} {ch : Nat → Option Nat} {tb : TbT} (h : IxC M x im ch tb) (hk : k (some (.inl (oI (plO ch tb (keyOf y))))) M) : XC (d + 3) 60 [.inr (some x), .inl y] M k := by
  refine xc ?_
  show X (d + 2) 60 0 [some (.inr (some x)), some (.inl y), none, none] [] M k
  refine vc_X 30 _ _ _ _ _ _ _ ?_
  simp only [↓v60_0, ↓v60_1, ↓v60_4, ↓v60_5, ↓v60_8, ↓v60_9, ↓v60_10, ↓v60_11, ↓v60_12, ↓v60_13, ↓v60_16, ↓v60_19, ↓v60_20, ↓v60_21, ↓v60_24, ↓v60_25, ↓v60_26, ↓v60_29, ↓v60_30, ↓v60_33, ↓v60_34, ↓v60_35, ↓v60_36, ↓v60_39, ↓v60_40, ↓v60_43, ↓v60_46, ↓v60_47, ↓v60_49, ↓v60_52, ↓v60_53, ↓v60_56, ↓v60_57, ↓qI_c, ↓qL_c, ↓qR_c, ↓pA_o, ↓qC_i, ↓qC_r, ↓oA_s, ↓gI_0, ↓gI_1, ↓gI_2, ↓gI_3, ↓gI_4, ↓gI_5, ↓gI_6, ↓gI_7, ↓gI_8, ↓gI_9, ↓gI_10, ↓gR_0, ↓gR_1, ↓gR_2, ↓gR_3, ↓gR_4, ↓gR_5, ↓gR_6, ↓gR_7, ↓gR_8, ↓gR_9, ↓gR_10, ↓sL_0, ↓sL_1, ↓sL_2, ↓sL_3, ↓sL_4, ↓sL_5, ↓sL_6, ↓sL_7, ↓sL_8, ↓sL_9, ↓sL_10, ↓rrf_si, ↓rrf_sg, ↓shO_si, ↓shO_sg, ↓shO_sr, ↓shA_si, ↓shA_sg, ↓shA_sr, ↓pAs_0, ↓pAs_i, ↓pAs_r, stk_n, stk_i, stk_l, stk_r, List.nil_append, List.cons_append, true_and, and_true, true_or, or_true, Nat.zero_add, dp_s, Nat.reduceAdd, le8_0, le8_1, le8_2, le8_3, le8_4, le8_5, le8_6, le8_7, le8_8, Classical.not_not, aT40, aT41, aT42, aT44, aT54, aT58, aT59, rT54, rT58, rT59, reduceIte, Nat.reduceEqDiff, qn_42, qn_44, true_implies, not_true_eq_false, not_false_eq_true, false_implies, ↓shO_of h.1.1, ↓rrf_of h.1.2.1, ↓shO_of h.2.1.1.1]
  refine k61k h.2.1 ⟨_, rfl, ?_⟩
  refine vc_X 30 _ _ _ _ _ _ _ ?_
  simp only [↓v60_0, ↓v60_1, ↓v60_4, ↓v60_5, ↓v60_8, ↓v60_9, ↓v60_10, ↓v60_11, ↓v60_12, ↓v60_13, ↓v60_16, ↓v60_19, ↓v60_20, ↓v60_21, ↓v60_24, ↓v60_25, ↓v60_26, ↓v60_29, ↓v60_30, ↓v60_33, ↓v60_34, ↓v60_35, ↓v60_36, ↓v60_39, ↓v60_40, ↓v60_43, ↓v60_46, ↓v60_47, ↓v60_49, ↓v60_52, ↓v60_53, ↓v60_56, ↓v60_57, ↓qI_c, ↓qL_c, ↓qR_c, ↓pA_o, ↓qC_i, ↓qC_r, ↓oA_s, ↓gI_0, ↓gI_1, ↓gI_2, ↓gI_3, ↓gI_4, ↓gI_5, ↓gI_6, ↓gI_7, ↓gI_8, ↓gI_9, ↓gI_10, ↓gR_0, ↓gR_1, ↓gR_2, ↓gR_3, ↓gR_4, ↓gR_5, ↓gR_6, ↓gR_7, ↓gR_8, ↓gR_9, ↓gR_10, ↓sL_0, ↓sL_1, ↓sL_2, ↓sL_3, ↓sL_4, ↓sL_5, ↓sL_6, ↓sL_7, ↓sL_8, ↓sL_9, ↓sL_10, ↓rrf_si, ↓rrf_sg, ↓shO_si, ↓shO_sg, ↓shO_sr, ↓shA_si, ↓shA_sg, ↓shA_sr, ↓pAs_0, ↓pAs_i, ↓pAs_r, stk_n, stk_i, stk_l, stk_r, List.nil_append, List.cons_append, true_and, and_true, true_or, or_true, Nat.zero_add, dp_s, Nat.reduceAdd, le8_0, le8_1, le8_2, le8_3, le8_4, le8_5, le8_6, le8_7, le8_8, Classical.not_not, aT40, aT41, aT42, aT44, aT54, aT58, aT59, rT54, rT58, rT59, reduceIte, Nat.reduceEqDiff, qn_42, qn_44, true_implies, not_true_eq_false, not_false_eq_true, false_implies]
  exact lop60 h tb.length 0 _ (by omega) (keyO_ok h.2.1.2.2.1 y) hk
theorem oI_m1 {o : Option Nat} (h : ∀ p, o = some p → p < 2147483648) : (oI o = -1) = (o = none) := by
  cases o with
  | none => exact propext ⟨fun _ => rfl, fun _ => rfl⟩
  | some p =>
    refine propext ⟨fun q => ?_, fun q => by cases q⟩
    have q : nI p = -1 := q
    rw [nI_nm (h p rfl) (by decide)] at q
    exact q.elim
def hasK (ch : Nat → Option Nat) (tb : TbT) (k : Nat) : Bool := (plO ch tb (some k)).isSome
theorem lop66 {d : Nat} {M : Mm} {k : mQ} {x : Nat} {im : Nat → Nat} {ch : Nat → Option Nat} {tb : TbT} (h : IxC M x im ch tb) (hk : k (some (.inl (nI (cnt (hasK ch tb) 48)))) M) : ∀ m i, i + m = 48 → X (d + 3) 66 4 [some (.inr (some x)), some (.inl (nI (cnt (hasK ch tb) i))), some (.inl (nI i))] [] M k := by
  intro m
  induction m with
  | zero =>
    intro i hi
    have e : i = 48 := by omega
    rw [e]
    refine vc_X 30 _ _ _ _ _ _ _ ?_
    simp only [↓v66_0, ↓v66_1, ↓v66_2, ↓v66_3, ↓v66_4, ↓v66_5, ↓v66_7, ↓v66_10, ↓v66_11, ↓v66_12, ↓v66_15, ↓v66_16, ↓v66_19, ↓v66_22, ↓v66_25, ↓v66_28, ↓v66_29, ↓qI_c, ↓qL_c, ↓qR_c, ↓pA_o, ↓qC_i, ↓qC_r, ↓oA_s, ↓gI_0, ↓gI_1, ↓gI_2, ↓gI_3, ↓gI_4, ↓gI_5, ↓gI_6, ↓gI_7, ↓gI_8, ↓gI_9, ↓gI_10, ↓gR_0, ↓gR_1, ↓gR_2, ↓gR_3, ↓gR_4, ↓gR_5, ↓gR_6, ↓gR_7, ↓gR_8, ↓gR_9, ↓gR_10, ↓sL_0, ↓sL_1, ↓sL_2, ↓sL_3, ↓sL_4, ↓sL_5, ↓sL_6, ↓sL_7, ↓sL_8, ↓sL_9, ↓sL_10, ↓rrf_si, ↓rrf_sg, ↓shO_si, ↓shO_sg, ↓shO_sr, ↓shA_si, ↓shA_sg, ↓shA_sr, ↓pAs_0, ↓pAs_i, ↓pAs_r, stk_n, stk_i, stk_l, stk_r, List.nil_append, List.cons_append, true_and, and_true, true_or, or_true, Nat.zero_add, dp_s, Nat.reduceAdd, le8_0, le8_1, le8_2, le8_3, le8_4, le8_5, le8_6, le8_7, le8_8, Classical.not_not, aT40, aT41, aT42, aT44, aT54, aT58, aT59, rT54, rT58, rT59, reduceIte, Nat.reduceEqDiff, qn_42, qn_44, true_implies, not_true_eq_false, not_false_eq_true, false_implies, le_T, T_48, nT (show 48 < 2147483648 by omega)]
    exact ⟨fun _ => hk, fun c => absurd (by decide) c⟩
  | succ m ih =>
    intro i hi
    refine vc_X 30 _ _ _ _ _ _ _ ?_
    simp only [↓v66_0, ↓v66_1, ↓v66_2, ↓v66_3, ↓v66_4, ↓v66_5, ↓v66_7, ↓v66_10, ↓v66_11, ↓v66_12, ↓v66_15, ↓v66_16, ↓v66_19, ↓v66_22, ↓v66_25, ↓v66_28, ↓v66_29, ↓qI_c, ↓qL_c, ↓qR_c, ↓pA_o, ↓qC_i, ↓qC_r, ↓oA_s, ↓gI_0, ↓gI_1, ↓gI_2, ↓gI_3, ↓gI_4, ↓gI_5, ↓gI_6, ↓gI_7, ↓gI_8, ↓gI_9, ↓gI_10, ↓gR_0, ↓gR_1, ↓gR_2, ↓gR_3, ↓gR_4, ↓gR_5, ↓gR_6, ↓gR_7, ↓gR_8, ↓gR_9, ↓gR_10, ↓sL_0, ↓sL_1, ↓sL_2, ↓sL_3, ↓sL_4, ↓sL_5, ↓sL_6, ↓sL_7, ↓sL_8, ↓sL_9, ↓sL_10, ↓rrf_si, ↓rrf_sg, ↓shO_si, ↓shO_sg, ↓shO_sr, ↓shA_si, ↓shA_sg, ↓shA_sr, ↓pAs_0, ↓pAs_i, ↓pAs_r, stk_n, stk_i, stk_l, stk_r, List.nil_append, List.cons_append, true_and, and_true, true_or, or_true, Nat.zero_add, dp_s, Nat.reduceAdd, le8_0, le8_1, le8_2, le8_3, le8_4, le8_5, le8_6, le8_7, le8_8, Classical.not_not, aT40, aT41, aT42, aT44, aT54, aT58, aT59, rT54, rT58, rT59, reduceIte, Nat.reduceEqDiff, qn_42, qn_44, true_implies, not_true_eq_false, not_false_eq_true, false_implies, le_T, T_48, nT (show i < 2147483648 by omega), ↓shO_of h.1.1]
    refine ⟨fun c => by omega, fun _ => k60 h ⟨_, rfl, ?_⟩⟩
    rw [keyOf_n (by omega)]
    have ih1 := ih (i + 1) (by omega)
    have e1 : cnt (hasK ch tb) (i + 1) = cnt (hasK ch tb) i + (if hasK ch tb i then 1 else 0) := rfl
    rw [e1] at ih1
    refine vc_X 30 _ _ _ _ _ _ _ ?_
    simp only [↓v66_0, ↓v66_1, ↓v66_2, ↓v66_3, ↓v66_4, ↓v66_5, ↓v66_7, ↓v66_10, ↓v66_11, ↓v66_12, ↓v66_15, ↓v66_16, ↓v66_19, ↓v66_22, ↓v66_25, ↓v66_28, ↓v66_29, ↓qI_c, ↓qL_c, ↓qR_c, ↓pA_o, ↓qC_i, ↓qC_r, ↓oA_s, ↓gI_0, ↓gI_1, ↓gI_2, ↓gI_3, ↓gI_4, ↓gI_5, ↓gI_6, ↓gI_7, ↓gI_8, ↓gI_9, ↓gI_10, ↓gR_0, ↓gR_1, ↓gR_2, ↓gR_3, ↓gR_4, ↓gR_5, ↓gR_6, ↓gR_7, ↓gR_8, ↓gR_9, ↓gR_10, ↓sL_0, ↓sL_1, ↓sL_2, ↓sL_3, ↓sL_4, ↓sL_5, ↓sL_6, ↓sL_7, ↓sL_8, ↓sL_9, ↓sL_10, ↓rrf_si, ↓rrf_sg, ↓shO_si, ↓shO_sg, ↓shO_sr, ↓shA_si, ↓shA_sg, ↓shA_sr, ↓pAs_0, ↓pAs_i, ↓pAs_r, stk_n, stk_i, stk_l, stk_r, List.nil_append, List.cons_append, true_and, and_true, true_or, or_true, Nat.zero_add, dp_s, Nat.reduceAdd, le8_0, le8_1, le8_2, le8_3, le8_4, le8_5, le8_6, le8_7, le8_8, Classical.not_not, aT40, aT41, aT42, aT44, aT54, aT58, aT59, rT54, rT58, rT59, reduceIte, Nat.reduceEqDiff, qn_42, qn_44, true_implies, not_true_eq_false, not_false_eq_true, false_implies, nI_1, oI_m1 (fun p hp => Nat.lt_trans (plO_lt h (show i < 48 by omega) hp) (by omega))]
    refine ⟨fun c => ?_, fun c => ?_⟩
    · rw [show hasK ch tb i = false by unfold hasK; rw [c]; rfl] at ih1
      exact ih1
    · rw [show hasK ch tb i = true by unfold hasK; exact Option.isSome_iff_ne_none.mpr c] at ih1
      exact ih1
theorem k66 {d : Nat} {M : Mm} {k : mQ} {x : Nat} {im : Nat → Nat} {ch : Nat → Option Nat} {tb : TbT} (h : IxC M x im ch tb) (hk : k (some (.inl (nI (cnt (hasK ch tb) 48)))) M) : XC (d + 4) 66 [.inr (some x)] M k := by
  refine xc ?_
  show X (d + 3) 66 0 [some (.inr (some x)), none, none] [] M k
  refine vc_X 30 _ _ _ _ _ _ _ ?_
  simp only [↓v66_0, ↓v66_1, ↓v66_2, ↓v66_3, ↓v66_4, ↓v66_5, ↓v66_7, ↓v66_10, ↓v66_11, ↓v66_12, ↓v66_15, ↓v66_16, ↓v66_19, ↓v66_22, ↓v66_25, ↓v66_28, ↓v66_29, ↓qI_c, ↓qL_c, ↓qR_c, ↓pA_o, ↓qC_i, ↓qC_r, ↓oA_s, ↓gI_0, ↓gI_1, ↓gI_2, ↓gI_3, ↓gI_4, ↓gI_5, ↓gI_6, ↓gI_7, ↓gI_8, ↓gI_9, ↓gI_10, ↓gR_0, ↓gR_1, ↓gR_2, ↓gR_3, ↓gR_4, ↓gR_5, ↓gR_6, ↓gR_7, ↓gR_8, ↓gR_9, ↓gR_10, ↓sL_0, ↓sL_1, ↓sL_2, ↓sL_3, ↓sL_4, ↓sL_5, ↓sL_6, ↓sL_7, ↓sL_8, ↓sL_9, ↓sL_10, ↓rrf_si, ↓rrf_sg, ↓shO_si, ↓shO_sg, ↓shO_sr, ↓shA_si, ↓shA_sg, ↓shA_sr, ↓pAs_0, ↓pAs_i, ↓pAs_r, stk_n, stk_i, stk_l, stk_r, List.nil_append, List.cons_append, true_and, and_true, true_or, or_true, Nat.zero_add, dp_s, Nat.reduceAdd, le8_0, le8_1, le8_2, le8_3, le8_4, le8_5, le8_6, le8_7, le8_8, Classical.not_not, aT40, aT41, aT42, aT44, aT54, aT58, aT59, rT54, rT58, rT59, reduceIte, Nat.reduceEqDiff, qn_42, qn_44, true_implies, not_true_eq_false, not_false_eq_true, false_implies]
  exact lop66 h hk 48 0 rfl
def isAt (ch : Nat → Option Nat) (tb : TbT) (p k : Nat) : Bool := plO ch tb (some k) == some p
theorem lop85 {d : Nat} {M : Mm} {k : mQ} {x p : Nat} {im : Nat → Nat} {ch : Nat → Option Nat} {tb : TbT} (h : IxC M x im ch tb) (hp : p < 1000) : ∀ m i, i + m = 48 → k (some (.inl (oI (fst_ (isAt ch tb p) i m)))) M → X (d + 3) 85 2 [some (.inr (some x)), some (.inl (nI p)), some (.inl (nI i))] [] M k := by
  intro m
  induction m with
  | zero =>
    intro i hi hk
    have e : i = 48 := by omega
    rw [e]
    refine vc_X 30 _ _ _ _ _ _ _ ?_
    simp only [↓v85_0, ↓v85_1, ↓v85_2, ↓v85_3, ↓v85_5, ↓v85_8, ↓v85_9, ↓v85_10, ↓v85_13, ↓v85_14, ↓v85_17, ↓v85_18, ↓v85_19, ↓v85_22, ↓v85_25, ↓v85_26, ↓qI_c, ↓qL_c, ↓qR_c, ↓pA_o, ↓qC_i, ↓qC_r, ↓oA_s, ↓gI_0, ↓gI_1, ↓gI_2, ↓gI_3, ↓gI_4, ↓gI_5, ↓gI_6, ↓gI_7, ↓gI_8, ↓gI_9, ↓gI_10, ↓gR_0, ↓gR_1, ↓gR_2, ↓gR_3, ↓gR_4, ↓gR_5, ↓gR_6, ↓gR_7, ↓gR_8, ↓gR_9, ↓gR_10, ↓sL_0, ↓sL_1, ↓sL_2, ↓sL_3, ↓sL_4, ↓sL_5, ↓sL_6, ↓sL_7, ↓sL_8, ↓sL_9, ↓sL_10, ↓rrf_si, ↓rrf_sg, ↓shO_si, ↓shO_sg, ↓shO_sr, ↓shA_si, ↓shA_sg, ↓shA_sr, ↓pAs_0, ↓pAs_i, ↓pAs_r, stk_n, stk_i, stk_l, stk_r, List.nil_append, List.cons_append, true_and, and_true, true_or, or_true, Nat.zero_add, dp_s, Nat.reduceAdd, le8_0, le8_1, le8_2, le8_3, le8_4, le8_5, le8_6, le8_7, le8_8, Classical.not_not, aT40, aT41, aT42, aT44, aT54, aT58, aT59, rT54, rT58, rT59, reduceIte, Nat.reduceEqDiff, qn_42, qn_44, true_implies, not_true_eq_false, not_false_eq_true, false_implies, le_T, T_48, nT (show 48 < 2147483648 by omega)]
    exact ⟨fun _ => hk, fun c => absurd (by decide) c⟩
  | succ m ih =>
    intro i hi hk
    refine vc_X 30 _ _ _ _ _ _ _ ?_
    simp only [↓v85_0, ↓v85_1, ↓v85_2, ↓v85_3, ↓v85_5, ↓v85_8, ↓v85_9, ↓v85_10, ↓v85_13, ↓v85_14, ↓v85_17, ↓v85_18, ↓v85_19, ↓v85_22, ↓v85_25, ↓v85_26, ↓qI_c, ↓qL_c, ↓qR_c, ↓pA_o, ↓qC_i, ↓qC_r, ↓oA_s, ↓gI_0, ↓gI_1, ↓gI_2, ↓gI_3, ↓gI_4, ↓gI_5, ↓gI_6, ↓gI_7, ↓gI_8, ↓gI_9, ↓gI_10, ↓gR_0, ↓gR_1, ↓gR_2, ↓gR_3, ↓gR_4, ↓gR_5, ↓gR_6, ↓gR_7, ↓gR_8, ↓gR_9, ↓gR_10, ↓sL_0, ↓sL_1, ↓sL_2, ↓sL_3, ↓sL_4, ↓sL_5, ↓sL_6, ↓sL_7, ↓sL_8, ↓sL_9, ↓sL_10, ↓rrf_si, ↓rrf_sg, ↓shO_si, ↓shO_sg, ↓shO_sr, ↓shA_si, ↓shA_sg, ↓shA_sr, ↓pAs_0, ↓pAs_i, ↓pAs_r, stk_n, stk_i, stk_l, stk_r, List.nil_append, List.cons_append, true_and, and_true, true_or, or_true, Nat.zero_add, dp_s, Nat.reduceAdd, le8_0, le8_1, le8_2, le8_3, le8_4, le8_5, le8_6, le8_7, le8_8, Classical.not_not, aT40, aT41, aT42, aT44, aT54, aT58, aT59, rT54, rT58, rT59, reduceIte, Nat.reduceEqDiff, qn_42, qn_44, true_implies, not_true_eq_false, not_false_eq_true, false_implies, le_T, T_48, nT (show i < 2147483648 by omega), ↓shO_of h.1.1]
    refine ⟨fun c => by omega, fun _ => k60 h ⟨_, rfl, ?_⟩⟩
    rw [keyOf_n (by omega)]
    have e1 : fst_ (isAt ch tb p) i (m + 1) = if isAt ch tb p i then some i else fst_ (isAt ch tb p) (i + 1) m := rfl
    rw [e1] at hk
    have eq : (oI (plO ch tb (some i)) = nI p) ↔ isAt ch tb p i = true := by
      unfold isAt
      cases hq : plO ch tb (some i) with
      | none =>
        refine ⟨fun q => ?_, fun q => by simp at q⟩
        have q : (-1 : Int32) = nI p := q
        have := nI_nm (p := p) (k := -1) (by omega) (by decide)
        exact (this ▸ q.symm : False).elim
      | some r =>
        have hr := plO_lt h (show i < 48 by omega) hq
        have e2 : oI (some r) = nI r := rfl
        rw [e2, nI_eq (by omega) (by omega)]
        simp
    refine vc_X 30 _ _ _ _ _ _ _ ?_
    simp only [↓v85_0, ↓v85_1, ↓v85_2, ↓v85_3, ↓v85_5, ↓v85_8, ↓v85_9, ↓v85_10, ↓v85_13, ↓v85_14, ↓v85_17, ↓v85_18, ↓v85_19, ↓v85_22, ↓v85_25, ↓v85_26, ↓qI_c, ↓qL_c, ↓qR_c, ↓pA_o, ↓qC_i, ↓qC_r, ↓oA_s, ↓gI_0, ↓gI_1, ↓gI_2, ↓gI_3, ↓gI_4, ↓gI_5, ↓gI_6, ↓gI_7, ↓gI_8, ↓gI_9, ↓gI_10, ↓gR_0, ↓gR_1, ↓gR_2, ↓gR_3, ↓gR_4, ↓gR_5, ↓gR_6, ↓gR_7, ↓gR_8, ↓gR_9, ↓gR_10, ↓sL_0, ↓sL_1, ↓sL_2, ↓sL_3, ↓sL_4, ↓sL_5, ↓sL_6, ↓sL_7, ↓sL_8, ↓sL_9, ↓sL_10, ↓rrf_si, ↓rrf_sg, ↓shO_si, ↓shO_sg, ↓shO_sr, ↓shA_si, ↓shA_sg, ↓shA_sr, ↓pAs_0, ↓pAs_i, ↓pAs_r, stk_n, stk_i, stk_l, stk_r, List.nil_append, List.cons_append, true_and, and_true, true_or, or_true, Nat.zero_add, dp_s, Nat.reduceAdd, le8_0, le8_1, le8_2, le8_3, le8_4, le8_5, le8_6, le8_7, le8_8, Classical.not_not, aT40, aT41, aT42, aT44, aT54, aT58, aT59, rT54, rT58, rT59, reduceIte, Nat.reduceEqDiff, qn_42, qn_44, true_implies, not_true_eq_false, not_false_eq_true, false_implies, nI_1]
    refine ⟨fun c => ?_, fun c => ?_⟩
    · have hf : isAt ch tb p i = false := by
        cases hb : isAt ch tb p i with
        | false => rfl
        | true => exact absurd (eq.mpr hb) c
      rw [hf] at hk
      exact ih (i + 1) (by omega) hk
    · rw [eq.mp c] at hk
      exact hk
theorem k85 {d : Nat} {M : Mm} {k : mQ} {x p : Nat} {im : Nat → Nat} {ch : Nat → Option Nat} {tb : TbT} (h : IxC M x im ch tb) (hp : p < 1000) (hk : k (some (.inl (oI (fst_ (isAt ch tb p) 0 48)))) M) : XC (d + 4) 85 [.inr (some x), .inl (nI p)] M k := by
  refine xc ?_
  show X (d + 3) 85 0 [some (.inr (some x)), some (.inl (nI p)), none] [] M k
  refine vc_X 30 _ _ _ _ _ _ _ ?_
  simp only [↓v85_0, ↓v85_1, ↓v85_2, ↓v85_3, ↓v85_5, ↓v85_8, ↓v85_9, ↓v85_10, ↓v85_13, ↓v85_14, ↓v85_17, ↓v85_18, ↓v85_19, ↓v85_22, ↓v85_25, ↓v85_26, ↓qI_c, ↓qL_c, ↓qR_c, ↓pA_o, ↓qC_i, ↓qC_r, ↓oA_s, ↓gI_0, ↓gI_1, ↓gI_2, ↓gI_3, ↓gI_4, ↓gI_5, ↓gI_6, ↓gI_7, ↓gI_8, ↓gI_9, ↓gI_10, ↓gR_0, ↓gR_1, ↓gR_2, ↓gR_3, ↓gR_4, ↓gR_5, ↓gR_6, ↓gR_7, ↓gR_8, ↓gR_9, ↓gR_10, ↓sL_0, ↓sL_1, ↓sL_2, ↓sL_3, ↓sL_4, ↓sL_5, ↓sL_6, ↓sL_7, ↓sL_8, ↓sL_9, ↓sL_10, ↓rrf_si, ↓rrf_sg, ↓shO_si, ↓shO_sg, ↓shO_sr, ↓shA_si, ↓shA_sg, ↓shA_sr, ↓pAs_0, ↓pAs_i, ↓pAs_r, stk_n, stk_i, stk_l, stk_r, List.nil_append, List.cons_append, true_and, and_true, true_or, or_true, Nat.zero_add, dp_s, Nat.reduceAdd, le8_0, le8_1, le8_2, le8_3, le8_4, le8_5, le8_6, le8_7, le8_8, Classical.not_not, aT40, aT41, aT42, aT44, aT54, aT58, aT59, rT54, rT58, rT59, reduceIte, Nat.reduceEqDiff, qn_42, qn_44, true_implies, not_true_eq_false, not_false_eq_true, false_implies]
  exact lop85 h hp 48 0 rfl hk
