/-! loops: Arrays.fill, Bytes.addFrom; counting -/
theorem shA_fl (M : Mm) (a n b : Nat) (x : Int32) (F : Nat → Nat → Prop) : shA (M.fl a n x) b F = shA M b F := nr rfl
theorem fl_0 (M : Mm) (a : Nat) (x : Int32) : M.fl a 0 x = M := by
  obtain ⟨s, z, i, l, r⟩ := M
  show (s, z, _, l, r) = (s, z, i, l, r)
  congr 3
  funext b j
  rw [if_neg (fun q => Nat.not_lt_zero _ q.2)]
theorem fl_s (M : Mm) (a n : Nat) (x : Int32) : (M.fl a n x).si a n x = M.fl a (n + 1) x := by
  obtain ⟨s, z, i, l, r⟩ := M
  show (s, z, _, l, r) = (s, z, _, l, r)
  congr 3
  funext b j
  show (if b = a ∧ j = n then x else if b = a ∧ j < n then x else i b j) = if b = a ∧ j < n + 1 then x else i b j
  by_cases h1 : b = a ∧ j = n
  · rw [if_pos h1, if_pos ⟨h1.1, by omega⟩]
  · rw [if_neg h1]
    by_cases h2 : b = a ∧ j < n
    · rw [if_pos h2, if_pos ⟨h2.1, by omega⟩]
    · rw [if_neg h2, if_neg (fun q => (Nat.lt_or_ge j n).elim (fun h => h2 ⟨q.1, h⟩) (fun h => h1 ⟨q.1, by omega⟩))]
theorem lop12 {d : Nat} {M : Mm} {k : mQ} {a N : Nat} {v : Int32} (h1 : M.sh a = some (41, N)) (hN : N < 100000) (hk : k none (M.fl a N v)) : ∀ m i : Nat, i + m = N → X d 12 5 [some (.inr (some a)), some (.inl v), some (.inl (nI i)), some (.inl (nI N))] [] (M.fl a i v) k := by
  intro m
  induction m with
  | zero =>
    intro i hi
    refine vc_X 20 _ _ _ _ _ _ _ ?_
    simp only [↓v12_0, ↓v12_1, ↓v12_2, ↓v12_3, ↓v12_4, ↓v12_5, ↓v12_6, ↓v12_7, ↓v12_10, ↓v12_11, ↓v12_12, ↓v12_13, ↓v12_14, ↓v12_17, ↓v12_20, ↓qI_c, ↓qL_c, ↓qR_c, ↓pA_o, ↓qC_i, ↓qC_r, ↓oA_s, ↓gI_0, ↓gI_1, ↓gI_2, ↓gI_3, ↓gI_4, ↓gI_5, ↓gI_6, ↓gI_7, ↓gI_8, ↓gI_9, ↓gI_10, ↓gR_0, ↓gR_1, ↓gR_2, ↓gR_3, ↓gR_4, ↓gR_5, ↓gR_6, ↓gR_7, ↓gR_8, ↓gR_9, ↓gR_10, ↓sL_0, ↓sL_1, ↓sL_2, ↓sL_3, ↓sL_4, ↓sL_5, ↓sL_6, ↓sL_7, ↓sL_8, ↓sL_9, ↓sL_10, ↓rrf_si, ↓rrf_sg, ↓shO_si, ↓shO_sg, ↓shO_sr, ↓shA_si, ↓shA_sg, ↓shA_sr, ↓pAs_0, ↓pAs_i, ↓pAs_r, stk_n, stk_i, stk_l, stk_r, List.nil_append, List.cons_append, true_and, and_true, true_or, or_true, Nat.zero_add, dp_s, Nat.reduceAdd, le8_0, le8_1, le8_2, le8_3, le8_4, le8_5, le8_6, le8_7, le8_8, Classical.not_not, aT40, aT41, aT42, aT44, aT54, aT58, aT59, rT54, rT58, rT59, reduceIte, Nat.reduceEqDiff, qn_42, qn_44, true_implies, not_true_eq_false, not_false_eq_true, false_implies, ↓shA_fl, ↓shA_of h1, le_T, nT (show i < 2147483648 by omega), nT (show N < 2147483648 by omega), nC (show i < 2147483648 by omega)]
    refine ⟨fun _ => ?_, fun c => by omega⟩
    rw [show i = N by omega]
    exact hk
  | succ m ih =>
    intro i hi
    refine vc_X 20 _ _ _ _ _ _ _ ?_
    simp only [↓v12_0, ↓v12_1, ↓v12_2, ↓v12_3, ↓v12_4, ↓v12_5, ↓v12_6, ↓v12_7, ↓v12_10, ↓v12_11, ↓v12_12, ↓v12_13, ↓v12_14, ↓v12_17, ↓v12_20, ↓qI_c, ↓qL_c, ↓qR_c, ↓pA_o, ↓qC_i, ↓qC_r, ↓oA_s, ↓gI_0, ↓gI_1, ↓gI_2, ↓gI_3, ↓gI_4, ↓gI_5, ↓gI_6, ↓gI_7, ↓gI_8, ↓gI_9, ↓gI_10, ↓gR_0, ↓gR_1, ↓gR_2, ↓gR_3, ↓gR_4, ↓gR_5, ↓gR_6, ↓gR_7, ↓gR_8, ↓gR_9, ↓gR_10, ↓sL_0, ↓sL_1, ↓sL_2, ↓sL_3, ↓sL_4, ↓sL_5, ↓sL_6, ↓sL_7, ↓sL_8, ↓sL_9, ↓sL_10, ↓rrf_si, ↓rrf_sg, ↓shO_si, ↓shO_sg, ↓shO_sr, ↓shA_si, ↓shA_sg, ↓shA_sr, ↓pAs_0, ↓pAs_i, ↓pAs_r, stk_n, stk_i, stk_l, stk_r, List.nil_append, List.cons_append, true_and, and_true, true_or, or_true, Nat.zero_add, dp_s, Nat.reduceAdd, le8_0, le8_1, le8_2, le8_3, le8_4, le8_5, le8_6, le8_7, le8_8, Classical.not_not, aT40, aT41, aT42, aT44, aT54, aT58, aT59, rT54, rT58, rT59, reduceIte, Nat.reduceEqDiff, qn_42, qn_44, true_implies, not_true_eq_false, not_false_eq_true, false_implies, ↓shA_fl, ↓shA_of h1, le_T, nT (show i < 2147483648 by omega), nT (show N < 2147483648 by omega), nC (show i < 2147483648 by omega)]
    refine ⟨fun c => by omega, fun _ => ⟨inB_n (by omega) (by omega), ?_⟩⟩
    rw [fl_s, nI_1]
    exact ih (i + 1) (by omega)
theorem k12 {d : Nat} {M : Mm} {k : mQ} {a N : Nat} {v : Int32} (h1 : M.sh a = some (41, N)) (hN : N < 100000) (hk : k none (M.fl a N v)) : XC (d + 1) 12 [.inr (some a), .inl v] M k := by
  refine xc ?_
  show X d 12 0 [some (.inr (some a)), some (.inl v), none, none] [] M k
  refine vc_X 20 _ _ _ _ _ _ _ ?_
  simp only [↓v12_0, ↓v12_1, ↓v12_2, ↓v12_3, ↓v12_4, ↓v12_5, ↓v12_6, ↓v12_7, ↓v12_10, ↓v12_11, ↓v12_12, ↓v12_13, ↓v12_14, ↓v12_17, ↓v12_20, ↓qI_c, ↓qL_c, ↓qR_c, ↓pA_o, ↓qC_i, ↓qC_r, ↓oA_s, ↓gI_0, ↓gI_1, ↓gI_2, ↓gI_3, ↓gI_4, ↓gI_5, ↓gI_6, ↓gI_7, ↓gI_8, ↓gI_9, ↓gI_10, ↓gR_0, ↓gR_1, ↓gR_2, ↓gR_3, ↓gR_4, ↓gR_5, ↓gR_6, ↓gR_7, ↓gR_8, ↓gR_9, ↓gR_10, ↓sL_0, ↓sL_1, ↓sL_2, ↓sL_3, ↓sL_4, ↓sL_5, ↓sL_6, ↓sL_7, ↓sL_8, ↓sL_9, ↓sL_10, ↓rrf_si, ↓rrf_sg, ↓shO_si, ↓shO_sg, ↓shO_sr, ↓shA_si, ↓shA_sg, ↓shA_sr, ↓pAs_0, ↓pAs_i, ↓pAs_r, stk_n, stk_i, stk_l, stk_r, List.nil_append, List.cons_append, true_and, and_true, true_or, or_true, Nat.zero_add, dp_s, Nat.reduceAdd, le8_0, le8_1, le8_2, le8_3, le8_4, le8_5, le8_6, le8_7, le8_8, Classical.not_not, aT40, aT41, aT42, aT44, aT54, aT58, aT59, rT54, rT58, rT59, reduceIte, Nat.reduceEqDiff, qn_42, qn_44, true_implies, not_true_eq_false, not_false_eq_true, false_implies, ↓shA_of h1]
  have := lop12 (d := d) (v := v) h1 hN hk N 0 (Nat.zero_add N)
  rw [fl_0] at this
  exact this
theorem lop45 {d : Nat} {k : mQ} {a c N a2 c2 N2 n : Nat} {l2 : List Int32} (hn : n < 100000) (ha : a2 ≠ a) (ha' : a2 ≠ c) (hc : c2 ≠ a) (hc' : c2 ≠ c) : ∀ (m i : Nat) (M : Mm) (l : List Int32), i + m = min n l2.length → BC M a c N l → BC M a2 c2 N2 l2 → l.length + m ≤ N → (∀ M', BC M' a c N (l ++ ((l2.drop i).take m).map (· &&& 255)) → On [a, c] M M' → k none M') →
    X (d + 1) 45 2 [some (.inr (some a)), some (.inr (some a2)), some (.inl (nI n)), some (.inl (nI i))] [] M k := by
  intro m
  induction m with
  | zero =>
    intro i M l hi h h2 hl hk
    have hL : l2.length ≤ N2 ∧ N2 < 100000 := ⟨h2.2.2.1, h2.1.2.2.2⟩
    refine vc_X 30 _ _ _ _ _ _ _ ?_
    simp only [↓v45_0, ↓v45_1, ↓v45_2, ↓v45_3, ↓v45_4, ↓v45_7, ↓v45_8, ↓v45_9, ↓v45_12, ↓v45_15, ↓v45_16, ↓v45_17, ↓v45_20, ↓v45_21, ↓v45_22, ↓v45_25, ↓v45_28, ↓v45_31, ↓qI_c, ↓qL_c, ↓qR_c, ↓pA_o, ↓qC_i, ↓qC_r, ↓oA_s, ↓gI_0, ↓gI_1, ↓gI_2, ↓gI_3, ↓gI_4, ↓gI_5, ↓gI_6, ↓gI_7, ↓gI_8, ↓gI_9, ↓gI_10, ↓gR_0, ↓gR_1, ↓gR_2, ↓gR_3, ↓gR_4, ↓gR_5, ↓gR_6, ↓gR_7, ↓gR_8, ↓gR_9, ↓gR_10, ↓sL_0, ↓sL_1, ↓sL_2, ↓sL_3, ↓sL_4, ↓sL_5, ↓sL_6, ↓sL_7, ↓sL_8, ↓sL_9, ↓sL_10, ↓rrf_si, ↓rrf_sg, ↓shO_si, ↓shO_sg, ↓shO_sr, ↓shA_si, ↓shA_sg, ↓shA_sr, ↓pAs_0, ↓pAs_i, ↓pAs_r, stk_n, stk_i, stk_l, stk_r, List.nil_append, List.cons_append, true_and, and_true, true_or, or_true, Nat.zero_add, dp_s, Nat.reduceAdd, le8_0, le8_1, le8_2, le8_3, le8_4, le8_5, le8_6, le8_7, le8_8, Classical.not_not, aT40, aT41, aT42, aT44, aT54, aT58, aT59, rT54, rT58, rT59, reduceIte, Nat.reduceEqDiff, qn_42, qn_44, true_implies, not_true_eq_false, not_false_eq_true, false_implies, ↓shO_of h2.1.1, ↓rrf_of h2.1.2.1, ↓shA_of h2.1.2.2.1, h2.2.1, le_T, nT (show i < 2147483648 by omega), nT (show n < 2147483648 by omega), nT (show l2.length < 2147483648 by omega), nC (show i < 2147483648 by omega), ↓shO_of h.1.1]
    have fin : k none M := hk M (by simpa using h) On.rf_
    refine ⟨fun _ => fin, fun c1 => ⟨fun _ => fin, fun c2 => by omega⟩⟩
  | succ m ih =>
    intro i M l hi h h2 hl hk
    have hL : l2.length ≤ N2 ∧ N2 < 100000 := ⟨h2.2.2.1, h2.1.2.2.2⟩
    refine vc_X 30 _ _ _ _ _ _ _ ?_
    simp only [↓v45_0, ↓v45_1, ↓v45_2, ↓v45_3, ↓v45_4, ↓v45_7, ↓v45_8, ↓v45_9, ↓v45_12, ↓v45_15, ↓v45_16, ↓v45_17, ↓v45_20, ↓v45_21, ↓v45_22, ↓v45_25, ↓v45_28, ↓v45_31, ↓qI_c, ↓qL_c, ↓qR_c, ↓pA_o, ↓qC_i, ↓qC_r, ↓oA_s, ↓gI_0, ↓gI_1, ↓gI_2, ↓gI_3, ↓gI_4, ↓gI_5, ↓gI_6, ↓gI_7, ↓gI_8, ↓gI_9, ↓gI_10, ↓gR_0, ↓gR_1, ↓gR_2, ↓gR_3, ↓gR_4, ↓gR_5, ↓gR_6, ↓gR_7, ↓gR_8, ↓gR_9, ↓gR_10, ↓sL_0, ↓sL_1, ↓sL_2, ↓sL_3, ↓sL_4, ↓sL_5, ↓sL_6, ↓sL_7, ↓sL_8, ↓sL_9, ↓sL_10, ↓rrf_si, ↓rrf_sg, ↓shO_si, ↓shO_sg, ↓shO_sr, ↓shA_si, ↓shA_sg, ↓shA_sr, ↓pAs_0, ↓pAs_i, ↓pAs_r, stk_n, stk_i, stk_l, stk_r, List.nil_append, List.cons_append, true_and, and_true, true_or, or_true, Nat.zero_add, dp_s, Nat.reduceAdd, le8_0, le8_1, le8_2, le8_3, le8_4, le8_5, le8_6, le8_7, le8_8, Classical.not_not, aT40, aT41, aT42, aT44, aT54, aT58, aT59, rT54, rT58, rT59, reduceIte, Nat.reduceEqDiff, qn_42, qn_44, true_implies, not_true_eq_false, not_false_eq_true, false_implies, ↓shO_of h2.1.1, ↓rrf_of h2.1.2.1, ↓shA_of h2.1.2.2.1, h2.2.1, le_T, nT (show i < 2147483648 by omega), nT (show n < 2147483648 by omega), nT (show l2.length < 2147483648 by omega), nC (show i < 2147483648 by omega), ↓shO_of h.1.1]
    refine ⟨fun c => by omega, fun _ => ⟨fun c => by omega, fun _ => ⟨inB_n (by omega) (by omega), ?_⟩⟩⟩
    have hi2 : i < l2.length := by omega
    have hv : l2[i]? = some l2[i] := List.getElem?_eq_getElem hi2
    rw [h2.2.2.2 i _ hv]
    refine k33 h (by omega) fun M1 h1 o1 => ⟨rfl, ?_⟩
    refine vc_X 30 _ _ _ _ _ _ _ ?_
    simp only [↓v45_0, ↓v45_1, ↓v45_2, ↓v45_3, ↓v45_4, ↓v45_7, ↓v45_8, ↓v45_9, ↓v45_12, ↓v45_15, ↓v45_16, ↓v45_17, ↓v45_20, ↓v45_21, ↓v45_22, ↓v45_25, ↓v45_28, ↓v45_31, ↓qI_c, ↓qL_c, ↓qR_c, ↓pA_o, ↓qC_i, ↓qC_r, ↓oA_s, ↓gI_0, ↓gI_1, ↓gI_2, ↓gI_3, ↓gI_4, ↓gI_5, ↓gI_6, ↓gI_7, ↓gI_8, ↓gI_9, ↓gI_10, ↓gR_0, ↓gR_1, ↓gR_2, ↓gR_3, ↓gR_4, ↓gR_5, ↓gR_6, ↓gR_7, ↓gR_8, ↓gR_9, ↓gR_10, ↓sL_0, ↓sL_1, ↓sL_2, ↓sL_3, ↓sL_4, ↓sL_5, ↓sL_6, ↓sL_7, ↓sL_8, ↓sL_9, ↓sL_10, ↓rrf_si, ↓rrf_sg, ↓shO_si, ↓shO_sg, ↓shO_sr, ↓shA_si, ↓shA_sg, ↓shA_sr, ↓pAs_0, ↓pAs_i, ↓pAs_r, stk_n, stk_i, stk_l, stk_r, List.nil_append, List.cons_append, true_and, and_true, true_or, or_true, Nat.zero_add, dp_s, Nat.reduceAdd, le8_0, le8_1, le8_2, le8_3, le8_4, le8_5, le8_6, le8_7, le8_8, Classical.not_not, aT40, aT41, aT42, aT44, aT54, aT58, aT59, rT54, rT58, rT59, reduceIte, Nat.reduceEqDiff, qn_42, qn_44, true_implies, not_true_eq_false, not_false_eq_true, false_implies]
    rw [nI_1]
    refine ih (i + 1) M1 (l ++ [l2[i] &&& 255]) (by omega) h1 (h2.keep o1 (by simp [ha, ha']) (by simp [hc, hc'])) (by simp; omega) fun M2 h3 o2 => hk M2 ?_ (o1.trans o2 (fun x h => h))
    have e : ((l2.drop i).take (m + 1)).map (· &&& 255) = (l2[i] &&& 255) :: ((l2.drop (i + 1)).take m).map (· &&& 255) := by
      rw [List.drop_eq_getElem_cons hi2]
      rfl
    rw [e]
    rw [List.append_assoc] at h3
    exact h3
theorem k45 {d : Nat} {M : Mm} {k : mQ} {a c N a2 c2 N2 n : Nat} {l l2 : List Int32} (hn : n < 100000) (ha : a2 ≠ a) (ha' : a2 ≠ c) (hc : c2 ≠ a) (hc' : c2 ≠ c) (h : BC M a c N l) (h2 : BC M a2 c2 N2 l2) (hl : l.length + min n l2.length ≤ N) (hk : ∀ M', BC M' a c N (l ++ (l2.take n).map (· &&& 255)) → On [a, c] M M' → k none M') : XC (d + 2) 45 [.inr (some a), .inr (some a2), .inl (nI n)] M k := by
  refine xc ?_
  show X (d + 1) 45 0 [some (.inr (some a)), some (.inr (some a2)), some (.inl (nI n)), none] [] M k
  refine vc_X 30 _ _ _ _ _ _ _ ?_
  simp only [↓v45_0, ↓v45_1, ↓v45_2, ↓v45_3, ↓v45_4, ↓v45_7, ↓v45_8, ↓v45_9, ↓v45_12, ↓v45_15, ↓v45_16, ↓v45_17, ↓v45_20, ↓v45_21, ↓v45_22, ↓v45_25, ↓v45_28, ↓v45_31, ↓qI_c, ↓qL_c, ↓qR_c, ↓pA_o, ↓qC_i, ↓qC_r, ↓oA_s, ↓gI_0, ↓gI_1, ↓gI_2, ↓gI_3, ↓gI_4, ↓gI_5, ↓gI_6, ↓gI_7, ↓gI_8, ↓gI_9, ↓gI_10, ↓gR_0, ↓gR_1, ↓gR_2, ↓gR_3, ↓gR_4, ↓gR_5, ↓gR_6, ↓gR_7, ↓gR_8, ↓gR_9, ↓gR_10, ↓sL_0, ↓sL_1, ↓sL_2, ↓sL_3, ↓sL_4, ↓sL_5, ↓sL_6, ↓sL_7, ↓sL_8, ↓sL_9, ↓sL_10, ↓rrf_si, ↓rrf_sg, ↓shO_si, ↓shO_sg, ↓shO_sr, ↓shA_si, ↓shA_sg, ↓shA_sr, ↓pAs_0, ↓pAs_i, ↓pAs_r, stk_n, stk_i, stk_l, stk_r, List.nil_append, List.cons_append, true_and, and_true, true_or, or_true, Nat.zero_add, dp_s, Nat.reduceAdd, le8_0, le8_1, le8_2, le8_3, le8_4, le8_5, le8_6, le8_7, le8_8, Classical.not_not, aT40, aT41, aT42, aT44, aT54, aT58, aT59, rT54, rT58, rT59, reduceIte, Nat.reduceEqDiff, qn_42, qn_44, true_implies, not_true_eq_false, not_false_eq_true, false_implies]
  refine lop45 hn ha ha' hc hc' (min n l2.length) 0 M l (Nat.zero_add _) h h2 hl fun M1 h1 o1 => hk M1 ?_ o1
  rw [List.drop_zero] at h1
  rw [List.take_eq_take_min]
  exact h1
/-- how many of 0 .. n - 1 are such -/
def cnt (p : Nat → Bool) : Nat → Nat
  | 0 => 0
  | n + 1 => cnt p n + (if p n then 1 else 0)
theorem cnt_le (p : Nat → Bool) : ∀ n, cnt p n ≤ n
  | 0 => Nat.le_refl _
  | n + 1 => by
    have := cnt_le p n
    show cnt p n + (if p n then 1 else 0) ≤ n + 1
    split <;> omega
theorem cnt_congr {p q : Nat → Bool} : ∀ n, (∀ i, i < n → p i = q i) → cnt p n = cnt q n
  | 0, _ => rfl
  | n + 1, h => by
    show cnt p n + _ = cnt q n + _
    rw [cnt_congr n (fun i hi => h i (by omega)), h n (by omega)]
/-- the first of i .. i + m - 1 that is such -/
def fst_ (p : Nat → Bool) : Nat → Nat → Option Nat
  | _, 0 => none
  | i, m + 1 => if p i then some i else fst_ p (i + 1) m
