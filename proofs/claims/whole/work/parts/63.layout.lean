/-! Layout: pointers and the open extent -/
def oI (o : Option Nat) : Int32 := match o with
  | none => -1
  | some e => nI e
def La (M : Mm) (a p : Nat) : Prop := M.sh a = some (6, 0) ∧ M.rf a 0 = some p ∧ M.sh p = some (41, 8)
def LaC (M : Mm) (a p : Nat) (ptr : Nat → Nat) (op : Option Nat) : Prop := La M a p ∧ (∀ e, e < 8 → M.it p e = nI (ptr e) ∧ ptr e ≤ 16) ∧ M.it a 1 = oI op ∧ (∀ e, op = some e → e < 8)
def emE (ptr : Nat → Nat) (op : Option Nat) (e : Nat) : Bool := ptr e == 0 && op != some e
theorem La.ne {M : Mm} {a p : Nat} (h : La M a p) : a ≠ p := by
  obtain ⟨h1, -, h3⟩ := h
  intro e
  rw [e, h3] at h1
  cases h1
theorem La.keep {M M' : Mm} {A : List Nat} {a p : Nat} (h : La M a p) (o : On A M M') : La M' a p := by
  obtain ⟨h1, h2, h3⟩ := h
  exact ⟨by rw [o.1]; exact h1, by rw [o.2.2.2.2.1]; exact h2, by rw [o.1]; exact h3⟩
theorem LaC.keep {M M' : Mm} {A : List Nat} {a p : Nat} {ptr : Nat → Nat} {op : Option Nat} (h : LaC M a p ptr op) (o : On A M M') (ha : a ∉ A) (hp : p ∉ A) : LaC M' a p ptr op := by
  obtain ⟨h1, h2, h3, h4⟩ := h
  exact ⟨h1.keep o, fun e he => by rw [o.2.2.2.2.2 p hp]; exact h2 e he, by rw [o.2.2.2.2.2 a ha]; exact h3, h4⟩
theorem oI_eq {op : Option Nat} {e : Nat} (ho : ∀ e, op = some e → e < 8) (he : e < 8) : (nI e = oI op) ↔ op = some e := by
  cases op with
  | none =>
    constructor
    · intro h
      rw [eq_T, nT (by omega)] at h
      have : (oI none).toInt = -1 := rfl
      omega
    · intro h; cases h
  | some e' =>
    have := ho e' rfl
    constructor
    · intro h
      have h : nI e = nI e' := h
      rw [nI_eq (by omega) (by omega)] at h
      rw [h]
    · intro h
      cases h
      rfl
theorem k49 {d : Nat} {M : Mm} {k : mQ} {a p e : Nat} {ptr : Nat → Nat} {op : Option Nat} (h : LaC M a p ptr op) (he : e < 8) (hk : k (some (.inl (if emE ptr op e then 1 else 0))) M) : XC (d + 2) 49 [.inr (some a), .inl (nI e)] M k := by
  obtain ⟨⟨b1, b2, b3⟩, h2, h3, h4⟩ := h
  refine xc ?_
  show X (d + 1) 49 0 [some (.inr (some a)), some (.inl (nI e))] [] M k
  refine vc_X 30 _ _ _ _ _ _ _ ?_
  simp only [↓v49_0, ↓v49_1, ↓v49_4, ↓v49_7, ↓v49_8, ↓v49_11, ↓v49_12, ↓v49_13, ↓v49_16, ↓v49_17, ↓v49_18, ↓v49_21, ↓v49_24, ↓v49_25, ↓v49_28, ↓v49_29, ↓qI_c, ↓qL_c, ↓qR_c, ↓pA_o, ↓qC_i, ↓qC_r, ↓oA_s, ↓gI_0, ↓gI_1, ↓gI_2, ↓gI_3, ↓gI_4, ↓gI_5, ↓gI_6, ↓gI_7, ↓gI_8, ↓gI_9, ↓gI_10, ↓gR_0, ↓gR_1, ↓gR_2, ↓gR_3, ↓gR_4, ↓gR_5, ↓gR_6, ↓gR_7, ↓gR_8, ↓gR_9, ↓gR_10, ↓sL_0, ↓sL_1, ↓sL_2, ↓sL_3, ↓sL_4, ↓sL_5, ↓sL_6, ↓sL_7, ↓sL_8, ↓sL_9, ↓sL_10, ↓rrf_si, ↓rrf_sg, ↓shO_si, ↓shO_sg, ↓shO_sr, ↓shA_si, ↓shA_sg, ↓shA_sr, ↓pAs_0, ↓pAs_i, ↓pAs_r, stk_n, stk_i, stk_l, stk_r, List.nil_append, List.cons_append, true_and, and_true, true_or, or_true, Nat.zero_add, dp_s, Nat.reduceAdd, le8_0, le8_1, le8_2, le8_3, le8_4, le8_5, le8_6, le8_7, le8_8, Classical.not_not, aT40, aT41, aT42, aT44, aT54, aT58, aT59, rT54, rT58, rT59, reduceIte, Nat.reduceEqDiff, qn_42, qn_44, true_implies, not_true_eq_false, not_false_eq_true, false_implies]
  refine k40 (fun _ => ⟨1, rfl, ?_⟩) (fun c => absurd (inB_n he (by omega)) c)
  refine vc_X 30 _ _ _ _ _ _ _ ?_
  simp only [↓v49_0, ↓v49_1, ↓v49_4, ↓v49_7, ↓v49_8, ↓v49_11, ↓v49_12, ↓v49_13, ↓v49_16, ↓v49_17, ↓v49_18, ↓v49_21, ↓v49_24, ↓v49_25, ↓v49_28, ↓v49_29, ↓qI_c, ↓qL_c, ↓qR_c, ↓pA_o, ↓qC_i, ↓qC_r, ↓oA_s, ↓gI_0, ↓gI_1, ↓gI_2, ↓gI_3, ↓gI_4, ↓gI_5, ↓gI_6, ↓gI_7, ↓gI_8, ↓gI_9, ↓gI_10, ↓gR_0, ↓gR_1, ↓gR_2, ↓gR_3, ↓gR_4, ↓gR_5, ↓gR_6, ↓gR_7, ↓gR_8, ↓gR_9, ↓gR_10, ↓sL_0, ↓sL_1, ↓sL_2, ↓sL_3, ↓sL_4, ↓sL_5, ↓sL_6, ↓sL_7, ↓sL_8, ↓sL_9, ↓sL_10, ↓rrf_si, ↓rrf_sg, ↓shO_si, ↓shO_sg, ↓shO_sr, ↓shA_si, ↓shA_sg, ↓shA_sr, ↓pAs_0, ↓pAs_i, ↓pAs_r, stk_n, stk_i, stk_l, stk_r, List.nil_append, List.cons_append, true_and, and_true, true_or, or_true, Nat.zero_add, dp_s, Nat.reduceAdd, le8_0, le8_1, le8_2, le8_3, le8_4, le8_5, le8_6, le8_7, le8_8, Classical.not_not, aT40, aT41, aT42, aT44, aT54, aT58, aT59, rT54, rT58, rT59, reduceIte, Nat.reduceEqDiff, qn_42, qn_44, true_implies, not_true_eq_false, not_false_eq_true, false_implies, ↓shO_of b1, ↓rrf_of b2, ↓shA_of b3, nC (show e < 2147483648 by omega), h3, (h2 e he).1, oI_eq h4 he]
  refine ⟨fun c => absurd c (by decide), fun _ => ⟨inB_n he (by omega), fun c => ?_, fun c => ⟨fun c2 => ?_, fun c2 => ?_⟩⟩⟩
  · have : ¬ ptr e = 0 := fun q => c (by rw [q]; rfl)
    rw [show emE ptr op e = false by simp [emE, this]] at hk
    exact hk
  · rw [show emE ptr op e = false by simp [emE, c2]] at hk
    exact hk
  · have h0 : ptr e = 0 := by
      rw [eq_T, nT (by have := (h2 e he).2; omega), T_0] at c
      omega
    rw [show emE ptr op e = true by simp [emE, c2, h0]] at hk
    exact hk
theorem lop48 {d : Nat} {M : Mm} {k : mQ} {a p : Nat} {ptr : Nat → Nat} {op : Option Nat} (h : LaC M a p ptr op) (hk : k (some (.inl (nI (cnt (emE ptr op) 8)))) M) : ∀ m i : Nat, i + m = 8 → X (d + 2) 48 4 [some (.inr (some a)), some (.inl (nI (cnt (emE ptr op) i))), some (.inl (nI i))] [] M k := by
  intro m
  induction m with
  | zero =>
    intro i hi
    have : i = 8 := by omega
    subst this
    refine vc_X 30 _ _ _ _ _ _ _ ?_
    simp only [↓v48_0, ↓v48_1, ↓v48_2, ↓v48_3, ↓v48_4, ↓v48_5, ↓v48_7, ↓v48_10, ↓v48_11, ↓v48_12, ↓v48_15, ↓v48_18, ↓v48_21, ↓v48_24, ↓v48_27, ↓v48_28, ↓qI_c, ↓qL_c, ↓qR_c, ↓pA_o, ↓qC_i, ↓qC_r, ↓oA_s, ↓gI_0, ↓gI_1, ↓gI_2, ↓gI_3, ↓gI_4, ↓gI_5, ↓gI_6, ↓gI_7, ↓gI_8, ↓gI_9, ↓gI_10, ↓gR_0, ↓gR_1, ↓gR_2, ↓gR_3, ↓gR_4, ↓gR_5, ↓gR_6, ↓gR_7, ↓gR_8, ↓gR_9, ↓gR_10, ↓sL_0, ↓sL_1, ↓sL_2, ↓sL_3, ↓sL_4, ↓sL_5, ↓sL_6, ↓sL_7, ↓sL_8, ↓sL_9, ↓sL_10, ↓rrf_si, ↓rrf_sg, ↓shO_si, ↓shO_sg, ↓shO_sr, ↓shA_si, ↓shA_sg, ↓shA_sr, ↓pAs_0, ↓pAs_i, ↓pAs_r, stk_n, stk_i, stk_l, stk_r, List.nil_append, List.cons_append, true_and, and_true, true_or, or_true, Nat.zero_add, dp_s, Nat.reduceAdd, le8_0, le8_1, le8_2, le8_3, le8_4, le8_5, le8_6, le8_7, le8_8, Classical.not_not, aT40, aT41, aT42, aT44, aT54, aT58, aT59, rT54, rT58, rT59, reduceIte, Nat.reduceEqDiff, qn_42, qn_44, true_implies, not_true_eq_false, not_false_eq_true, false_implies, le_T, nT (show 8 < 2147483648 by omega), T_8]
    exact ⟨fun _ => hk, fun c => absurd (by decide) c⟩
  | succ m ih =>
    intro i hi
    refine vc_X 30 _ _ _ _ _ _ _ ?_
    simp only [↓v48_0, ↓v48_1, ↓v48_2, ↓v48_3, ↓v48_4, ↓v48_5, ↓v48_7, ↓v48_10, ↓v48_11, ↓v48_12, ↓v48_15, ↓v48_18, ↓v48_21, ↓v48_24, ↓v48_27, ↓v48_28, ↓qI_c, ↓qL_c, ↓qR_c, ↓pA_o, ↓qC_i, ↓qC_r, ↓oA_s, ↓gI_0, ↓gI_1, ↓gI_2, ↓gI_3, ↓gI_4, ↓gI_5, ↓gI_6, ↓gI_7, ↓gI_8, ↓gI_9, ↓gI_10, ↓gR_0, ↓gR_1, ↓gR_2, ↓gR_3, ↓gR_4, ↓gR_5, ↓gR_6, ↓gR_7, ↓gR_8, ↓gR_9, ↓gR_10, ↓sL_0, ↓sL_1, ↓sL_2, ↓sL_3, ↓sL_4, ↓sL_5, ↓sL_6, ↓sL_7, ↓sL_8, ↓sL_9, ↓sL_10, ↓rrf_si, ↓rrf_sg, ↓shO_si, ↓shO_sg, ↓shO_sr, ↓shA_si, ↓shA_sg, ↓shA_sr, ↓pAs_0, ↓pAs_i, ↓pAs_r, stk_n, stk_i, stk_l, stk_r, List.nil_append, List.cons_append, true_and, and_true, true_or, or_true, Nat.zero_add, dp_s, Nat.reduceAdd, le8_0, le8_1, le8_2, le8_3, le8_4, le8_5, le8_6, le8_7, le8_8, Classical.not_not, aT40, aT41, aT42, aT44, aT54, aT58, aT59, rT54, rT58, rT59, reduceIte, Nat.reduceEqDiff, qn_42, qn_44, true_implies, not_true_eq_false, not_false_eq_true, false_implies, le_T, nT (show i < 2147483648 by omega), T_8, ↓shO_of h.1.1]
    refine ⟨fun c => by omega, fun _ => k49 h (by omega) ⟨_, rfl, ?_⟩⟩
    have ih1 := ih (i + 1) (by omega)
    have e1 : cnt (emE ptr op) (i + 1) = cnt (emE ptr op) i + (if emE ptr op i then 1 else 0) := rfl
    rw [e1] at ih1
    cases hE : emE ptr op i with
    | false =>
      rw [hE] at ih1
      refine vc_X 30 _ _ _ _ _ _ _ ?_
      simp only [↓v48_0, ↓v48_1, ↓v48_2, ↓v48_3, ↓v48_4, ↓v48_5, ↓v48_7, ↓v48_10, ↓v48_11, ↓v48_12, ↓v48_15, ↓v48_18, ↓v48_21, ↓v48_24, ↓v48_27, ↓v48_28, ↓qI_c, ↓qL_c, ↓qR_c, ↓pA_o, ↓qC_i, ↓qC_r, ↓oA_s, ↓gI_0, ↓gI_1, ↓gI_2, ↓gI_3, ↓gI_4, ↓gI_5, ↓gI_6, ↓gI_7, ↓gI_8, ↓gI_9, ↓gI_10, ↓gR_0, ↓gR_1, ↓gR_2, ↓gR_3, ↓gR_4, ↓gR_5, ↓gR_6, ↓gR_7, ↓gR_8, ↓gR_9, ↓gR_10, ↓sL_0, ↓sL_1, ↓sL_2, ↓sL_3, ↓sL_4, ↓sL_5, ↓sL_6, ↓sL_7, ↓sL_8, ↓sL_9, ↓sL_10, ↓rrf_si, ↓rrf_sg, ↓shO_si, ↓shO_sg, ↓shO_sr, ↓shA_si, ↓shA_sg, ↓shA_sr, ↓pAs_0, ↓pAs_i, ↓pAs_r, stk_n, stk_i, stk_l, stk_r, List.nil_append, List.cons_append, true_and, and_true, true_or, or_true, Nat.zero_add, dp_s, Nat.reduceAdd, le8_0, le8_1, le8_2, le8_3, le8_4, le8_5, le8_6, le8_7, le8_8, Classical.not_not, aT40, aT41, aT42, aT44, aT54, aT58, aT59, rT54, rT58, rT59, reduceIte, Nat.reduceEqDiff, qn_42, qn_44, true_implies, not_true_eq_false, not_false_eq_true, false_implies]
      rw [nI_1]
      exact ⟨fun _ => ih1, fun c => absurd rfl c⟩
    | true =>
      rw [hE] at ih1
      refine vc_X 30 _ _ _ _ _ _ _ ?_
      simp only [↓v48_0, ↓v48_1, ↓v48_2, ↓v48_3, ↓v48_4, ↓v48_5, ↓v48_7, ↓v48_10, ↓v48_11, ↓v48_12, ↓v48_15, ↓v48_18, ↓v48_21, ↓v48_24, ↓v48_27, ↓v48_28, ↓qI_c, ↓qL_c, ↓qR_c, ↓pA_o, ↓qC_i, ↓qC_r, ↓oA_s, ↓gI_0, ↓gI_1, ↓gI_2, ↓gI_3, ↓gI_4, ↓gI_5, ↓gI_6, ↓gI_7, ↓gI_8, ↓gI_9, ↓gI_10, ↓gR_0, ↓gR_1, ↓gR_2, ↓gR_3, ↓gR_4, ↓gR_5, ↓gR_6, ↓gR_7, ↓gR_8, ↓gR_9, ↓gR_10, ↓sL_0, ↓sL_1, ↓sL_2, ↓sL_3, ↓sL_4, ↓sL_5, ↓sL_6, ↓sL_7, ↓sL_8, ↓sL_9, ↓sL_10, ↓rrf_si, ↓rrf_sg, ↓shO_si, ↓shO_sg, ↓shO_sr, ↓shA_si, ↓shA_sg, ↓shA_sr, ↓pAs_0, ↓pAs_i, ↓pAs_r, stk_n, stk_i, stk_l, stk_r, List.nil_append, List.cons_append, true_and, and_true, true_or, or_true, Nat.zero_add, dp_s, Nat.reduceAdd, le8_0, le8_1, le8_2, le8_3, le8_4, le8_5, le8_6, le8_7, le8_8, Classical.not_not, aT40, aT41, aT42, aT44, aT54, aT58, aT59, rT54, rT58, rT59, reduceIte, Nat.reduceEqDiff, qn_42, qn_44, true_implies, not_true_eq_false, not_false_eq_true, false_implies]
      rw [nI_1, nI_1]
      exact ⟨fun c => absurd c (by decide), fun _ => ih1⟩
theorem k48 {d : Nat} {M : Mm} {k : mQ} {a p : Nat} {ptr : Nat → Nat} {op : Option Nat} (h : LaC M a p ptr op) (hk : k (some (.inl (nI (cnt (emE ptr op) 8)))) M) : XC (d + 3) 48 [.inr (some a)] M k := by
  refine xc ?_
  show X (d + 2) 48 0 [some (.inr (some a)), none, none] [] M k
  refine vc_X 30 _ _ _ _ _ _ _ ?_
  simp only [↓v48_0, ↓v48_1, ↓v48_2, ↓v48_3, ↓v48_4, ↓v48_5, ↓v48_7, ↓v48_10, ↓v48_11, ↓v48_12, ↓v48_15, ↓v48_18, ↓v48_21, ↓v48_24, ↓v48_27, ↓v48_28, ↓qI_c, ↓qL_c, ↓qR_c, ↓pA_o, ↓qC_i, ↓qC_r, ↓oA_s, ↓gI_0, ↓gI_1, ↓gI_2, ↓gI_3, ↓gI_4, ↓gI_5, ↓gI_6, ↓gI_7, ↓gI_8, ↓gI_9, ↓gI_10, ↓gR_0, ↓gR_1, ↓gR_2, ↓gR_3, ↓gR_4, ↓gR_5, ↓gR_6, ↓gR_7, ↓gR_8, ↓gR_9, ↓gR_10, ↓sL_0, ↓sL_1, ↓sL_2, ↓sL_3, ↓sL_4, ↓sL_5, ↓sL_6, ↓sL_7, ↓sL_8, ↓sL_9, ↓sL_10, ↓rrf_si, ↓rrf_sg, ↓shO_si, ↓shO_sg, ↓shO_sr, ↓shA_si, ↓shA_sg, ↓shA_sr, ↓pAs_0, ↓pAs_i, ↓pAs_r, stk_n, stk_i, stk_l, stk_r, List.nil_append, List.cons_append, true_and, and_true, true_or, or_true, Nat.zero_add, dp_s, Nat.reduceAdd, le8_0, le8_1, le8_2, le8_3, le8_4, le8_5, le8_6, le8_7, le8_8, Classical.not_not, aT40, aT41, aT42, aT44, aT54, aT58, aT59, rT54, rT58, rT59, reduceIte, Nat.reduceEqDiff, qn_42, qn_44, true_implies, not_true_eq_false, not_false_eq_true, false_implies]
  exact lop48 h hk 8 0 rfl
theorem lop50 {d : Nat} {M : Mm} {k : mQ} {a p : Nat} {ptr : Nat → Nat} {op : Option Nat} (h : LaC M a p ptr op) : ∀ m i : Nat, i + m = 8 → k (some (.inl (oI (fst_ (emE ptr op) i m)))) M → X (d + 2) 50 2 [some (.inr (some a)), some (.inl (nI i))] [] M k := by
  intro m
  induction m with
  | zero =>
    intro i hi hk
    have : i = 8 := by omega
    subst this
    refine vc_X 30 _ _ _ _ _ _ _ ?_
    simp only [↓v50_0, ↓v50_1, ↓v50_2, ↓v50_3, ↓v50_5, ↓v50_8, ↓v50_9, ↓v50_10, ↓v50_13, ↓v50_16, ↓v50_17, ↓v50_18, ↓v50_21, ↓v50_24, ↓v50_25, ↓qI_c, ↓qL_c, ↓qR_c, ↓pA_o, ↓qC_i, ↓qC_r, ↓oA_s, ↓gI_0, ↓gI_1, ↓gI_2, ↓gI_3, ↓gI_4, ↓gI_5, ↓gI_6, ↓gI_7, ↓gI_8, ↓gI_9, ↓gI_10, ↓gR_0, ↓gR_1, ↓gR_2, ↓gR_3, ↓gR_4, ↓gR_5, ↓gR_6, ↓gR_7, ↓gR_8, ↓gR_9, ↓gR_10, ↓sL_0, ↓sL_1, ↓sL_2, ↓sL_3, ↓sL_4, ↓sL_5, ↓sL_6, ↓sL_7, ↓sL_8, ↓sL_9, ↓sL_10, ↓rrf_si, ↓rrf_sg, ↓shO_si, ↓shO_sg, ↓shO_sr, ↓shA_si, ↓shA_sg, ↓shA_sr, ↓pAs_0, ↓pAs_i, ↓pAs_r, stk_n, stk_i, stk_l, stk_r, List.nil_append, List.cons_append, true_and, and_true, true_or, or_true, Nat.zero_add, dp_s, Nat.reduceAdd, le8_0, le8_1, le8_2, le8_3, le8_4, le8_5, le8_6, le8_7, le8_8, Classical.not_not, aT40, aT41, aT42, aT44, aT54, aT58, aT59, rT54, rT58, rT59, reduceIte, Nat.reduceEqDiff, qn_42, qn_44, true_implies, not_true_eq_false, not_false_eq_true, false_implies, le_T, nT (show 8 < 2147483648 by omega), T_8]
    exact ⟨fun _ => hk, fun c => absurd (by decide) c⟩
  | succ m ih =>
    intro i hi hk
    refine vc_X 30 _ _ _ _ _ _ _ ?_
    simp only [↓v50_0, ↓v50_1, ↓v50_2, ↓v50_3, ↓v50_5, ↓v50_8, ↓v50_9, ↓v50_10, ↓v50_13, ↓v50_16, ↓v50_17, ↓v50_18, ↓v50_21, ↓v50_24, ↓v50_25, ↓qI_c, ↓qL_c, ↓qR_c, ↓pA_o, ↓qC_i, ↓qC_r, ↓oA_s, ↓gI_0, ↓gI_1, ↓gI_2, ↓gI_3, ↓gI_4, ↓gI_5, ↓gI_6, ↓gI_7, ↓gI_8, ↓gI_9, ↓gI_10, ↓gR_0, ↓gR_1, ↓gR_2, ↓gR_3, ↓gR_4, ↓gR_5, ↓gR_6, ↓gR_7, ↓gR_8, ↓gR_9, ↓gR_10, ↓sL_0, ↓sL_1, ↓sL_2, ↓sL_3, ↓sL_4, ↓sL_5, ↓sL_6, ↓sL_7, ↓sL_8, ↓sL_9, ↓sL_10, ↓rrf_si, ↓rrf_sg, ↓shO_si, ↓shO_sg, ↓shO_sr, ↓shA_si, ↓shA_sg, ↓shA_sr, ↓pAs_0, ↓pAs_i, ↓pAs_r, stk_n, stk_i, stk_l, stk_r, List.nil_append, List.cons_append, true_and, and_true, true_or, or_true, Nat.zero_add, dp_s, Nat.reduceAdd, le8_0, le8_1, le8_2, le8_3, le8_4, le8_5, le8_6, le8_7, le8_8, Classical.not_not, aT40, aT41, aT42, aT44, aT54, aT58, aT59, rT54, rT58, rT59, reduceIte, Nat.reduceEqDiff, qn_42, qn_44, true_implies, not_true_eq_false, not_false_eq_true, false_implies, le_T, nT (show i < 2147483648 by omega), T_8, ↓shO_of h.1.1]
    refine ⟨fun c => by omega, fun _ => k49 h (by omega) ⟨_, rfl, ?_⟩⟩
    have e1 : fst_ (emE ptr op) i (m + 1) = if emE ptr op i then some i else fst_ (emE ptr op) (i + 1) m := rfl
    rw [e1] at hk
    cases hE : emE ptr op i with
    | false =>
      rw [hE] at hk
      refine vc_X 30 _ _ _ _ _ _ _ ?_
      simp only [↓v50_0, ↓v50_1, ↓v50_2, ↓v50_3, ↓v50_5, ↓v50_8, ↓v50_9, ↓v50_10, ↓v50_13, ↓v50_16, ↓v50_17, ↓v50_18, ↓v50_21, ↓v50_24, ↓v50_25, ↓qI_c, ↓qL_c, ↓qR_c, ↓pA_o, ↓qC_i, ↓qC_r, ↓oA_s, ↓gI_0, ↓gI_1, ↓gI_2, ↓gI_3, ↓gI_4, ↓gI_5, ↓gI_6, ↓gI_7, ↓gI_8, ↓gI_9, ↓gI_10, ↓gR_0, ↓gR_1, ↓gR_2, ↓gR_3, ↓gR_4, ↓gR_5, ↓gR_6, ↓gR_7, ↓gR_8, ↓gR_9, ↓gR_10, ↓sL_0, ↓sL_1, ↓sL_2, ↓sL_3, ↓sL_4, ↓sL_5, ↓sL_6, ↓sL_7, ↓sL_8, ↓sL_9, ↓sL_10, ↓rrf_si, ↓rrf_sg, ↓shO_si, ↓shO_sg, ↓shO_sr, ↓shA_si, ↓shA_sg, ↓shA_sr, ↓pAs_0, ↓pAs_i, ↓pAs_r, stk_n, stk_i, stk_l, stk_r, List.nil_append, List.cons_append, true_and, and_true, true_or, or_true, Nat.zero_add, dp_s, Nat.reduceAdd, le8_0, le8_1, le8_2, le8_3, le8_4, le8_5, le8_6, le8_7, le8_8, Classical.not_not, aT40, aT41, aT42, aT44, aT54, aT58, aT59, rT54, rT58, rT59, reduceIte, Nat.reduceEqDiff, qn_42, qn_44, true_implies, not_true_eq_false, not_false_eq_true, false_implies]
      rw [nI_1]
      exact ⟨fun _ => ih (i + 1) (by omega) hk, fun c => absurd rfl c⟩
    | true =>
      rw [hE] at hk
      refine vc_X 30 _ _ _ _ _ _ _ ?_
      simp only [↓v50_0, ↓v50_1, ↓v50_2, ↓v50_3, ↓v50_5, ↓v50_8, ↓v50_9, ↓v50_10, ↓v50_13, ↓v50_16, ↓v50_17, ↓v50_18, ↓v50_21, ↓v50_24, ↓v50_25, ↓qI_c, ↓qL_c, ↓qR_c, ↓pA_o, ↓qC_i, ↓qC_r, ↓oA_s, ↓gI_0, ↓gI_1, ↓gI_2, ↓gI_3, ↓gI_4, ↓gI_5, ↓gI_6, ↓gI_7, ↓gI_8, ↓gI_9, ↓gI_10, ↓gR_0, ↓gR_1, ↓gR_2, ↓gR_3, ↓gR_4, ↓gR_5, ↓gR_6, ↓gR_7, ↓gR_8, ↓gR_9, ↓gR_10, ↓sL_0, ↓sL_1, ↓sL_2, ↓sL_3, ↓sL_4, ↓sL_5, ↓sL_6, ↓sL_7, ↓sL_8, ↓sL_9, ↓sL_10, ↓rrf_si, ↓rrf_sg, ↓shO_si, ↓shO_sg, ↓shO_sr, ↓shA_si, ↓shA_sg, ↓shA_sr, ↓pAs_0, ↓pAs_i, ↓pAs_r, stk_n, stk_i, stk_l, stk_r, List.nil_append, List.cons_append, true_and, and_true, true_or, or_true, Nat.zero_add, dp_s, Nat.reduceAdd, le8_0, le8_1, le8_2, le8_3, le8_4, le8_5, le8_6, le8_7, le8_8, Classical.not_not, aT40, aT41, aT42, aT44, aT54, aT58, aT59, rT54, rT58, rT59, reduceIte, Nat.reduceEqDiff, qn_42, qn_44, true_implies, not_true_eq_false, not_false_eq_true, false_implies]
      exact ⟨fun c => absurd c (by decide), fun _ => hk⟩
theorem k50 {d : Nat} {M : Mm} {k : mQ} {a p : Nat} {ptr : Nat → Nat} {op : Option Nat} (h : LaC M a p ptr op) (hk : k (some (.inl (oI (fst_ (emE ptr op) 0 8)))) M) : XC (d + 3) 50 [.inr (some a)] M k := by
  refine xc ?_
  show X (d + 2) 50 0 [some (.inr (some a)), none] [] M k
  refine vc_X 30 _ _ _ _ _ _ _ ?_
  simp only [↓v50_0, ↓v50_1, ↓v50_2, ↓v50_3, ↓v50_5, ↓v50_8, ↓v50_9, ↓v50_10, ↓v50_13, ↓v50_16, ↓v50_17, ↓v50_18, ↓v50_21, ↓v50_24, ↓v50_25, ↓qI_c, ↓qL_c, ↓qR_c, ↓pA_o, ↓qC_i, ↓qC_r, ↓oA_s, ↓gI_0, ↓gI_1, ↓gI_2, ↓gI_3, ↓gI_4, ↓gI_5, ↓gI_6, ↓gI_7, ↓gI_8, ↓gI_9, ↓gI_10, ↓gR_0, ↓gR_1, ↓gR_2, ↓gR_3, ↓gR_4, ↓gR_5, ↓gR_6, ↓gR_7, ↓gR_8, ↓gR_9, ↓gR_10, ↓sL_0, ↓sL_1, ↓sL_2, ↓sL_3, ↓sL_4, ↓sL_5, ↓sL_6, ↓sL_7, ↓sL_8, ↓sL_9, ↓sL_10, ↓rrf_si, ↓rrf_sg, ↓shO_si, ↓shO_sg, ↓shO_sr, ↓shA_si, ↓shA_sg, ↓shA_sr, ↓pAs_0, ↓pAs_i, ↓pAs_r, stk_n, stk_i, stk_l, stk_r, List.nil_append, List.cons_append, true_and, and_true, true_or, or_true, Nat.zero_add, dp_s, Nat.reduceAdd, le8_0, le8_1, le8_2, le8_3, le8_4, le8_5, le8_6, le8_7, le8_8, Classical.not_not, aT40, aT41, aT42, aT44, aT54, aT58, aT59, rT54, rT58, rT59, reduceIte, Nat.reduceEqDiff, qn_42, qn_44, true_implies, not_true_eq_false, not_false_eq_true, false_implies]
  exact lop50 h 8 0 rfl hk
