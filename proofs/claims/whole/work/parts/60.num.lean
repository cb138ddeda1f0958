/-! NUMBERS, FRAMES -/
theorem lt_T (x y : Int32) : (x < y) = (x.toInt < y.toInt) := propext Int32.lt_iff_toInt_lt
theorem le_T (x y : Int32) : (x ≤ y) = (x.toInt ≤ y.toInt) := propext Int32.le_iff_toInt_le
theorem eq_T (x y : Int32) : (x = y) = (x.toInt = y.toInt) := propext Int32.toInt_inj.symm
theorem T_0 : (0 : Int32).toInt = 0 := rfl
theorem T_1 : (1 : Int32).toInt = 1 := rfl
theorem T_2 : (2 : Int32).toInt = 2 := rfl
theorem T_3 : (3 : Int32).toInt = 3 := rfl
theorem T_4 : (4 : Int32).toInt = 4 := rfl
theorem T_5 : (5 : Int32).toInt = 5 := rfl
theorem T_6 : (6 : Int32).toInt = 6 := rfl
theorem T_7 : (7 : Int32).toInt = 7 := rfl
theorem T_8 : (8 : Int32).toInt = 8 := rfl
theorem T_9 : (9 : Int32).toInt = 9 := rfl
theorem T_10 : (10 : Int32).toInt = 10 := rfl
theorem T_11 : (11 : Int32).toInt = 11 := rfl
theorem T_12 : (12 : Int32).toInt = 12 := rfl
theorem T_13 : (13 : Int32).toInt = 13 := rfl
theorem T_15 : (15 : Int32).toInt = 15 := rfl
theorem T_16 : (16 : Int32).toInt = 16 := rfl
theorem T_17 : (17 : Int32).toInt = 17 := rfl
theorem T_18 : (18 : Int32).toInt = 18 := rfl
theorem T_20 : (20 : Int32).toInt = 20 := rfl
theorem T_24 : (24 : Int32).toInt = 24 := rfl
theorem T_31 : (31 : Int32).toInt = 31 := rfl
theorem T_48 : (48 : Int32).toInt = 48 := rfl
theorem T_100 : (100 : Int32).toInt = 100 := rfl
theorem T_120 : (120 : Int32).toInt = 120 := rfl
theorem T_127 : (127 : Int32).toInt = 127 := rfl
theorem T_128 : (128 : Int32).toInt = 128 := rfl
theorem T_144 : (144 : Int32).toInt = 144 := rfl
theorem T_165 : (165 : Int32).toInt = 165 := rfl
theorem T_200 : (200 : Int32).toInt = 200 := rfl
theorem T_255 : (255 : Int32).toInt = 255 := rfl
theorem T_256 : (256 : Int32).toInt = 256 := rfl
theorem T_263 : (263 : Int32).toInt = 263 := rfl
theorem T_512 : (512 : Int32).toInt = 512 := rfl
theorem T_513 : (513 : Int32).toInt = 513 := rfl
theorem T_2048 : (2048 : Int32).toInt = 2048 := rfl
theorem T_m1 : (-1 : Int32).toInt = -1 := rfl
theorem T_m2 : (-2 : Int32).toInt = -2 := rfl
theorem T_m3 : (-3 : Int32).toInt = -3 := rfl
theorem n_0 : (0 : Int32) = nI 0 := rfl
theorem n_1 : (1 : Int32) = nI 1 := rfl
theorem n_2 : (2 : Int32) = nI 2 := rfl
theorem n_3 : (3 : Int32) = nI 3 := rfl
theorem n_4 : (4 : Int32) = nI 4 := rfl
theorem n_5 : (5 : Int32) = nI 5 := rfl
theorem n_6 : (6 : Int32) = nI 6 := rfl
theorem n_7 : (7 : Int32) = nI 7 := rfl
theorem n_8 : (8 : Int32) = nI 8 := rfl
theorem n_9 : (9 : Int32) = nI 9 := rfl
theorem n_10 : (10 : Int32) = nI 10 := rfl
theorem n_11 : (11 : Int32) = nI 11 := rfl
theorem n_12 : (12 : Int32) = nI 12 := rfl
theorem n_13 : (13 : Int32) = nI 13 := rfl
theorem n_15 : (15 : Int32) = nI 15 := rfl
theorem n_16 : (16 : Int32) = nI 16 := rfl
theorem n_17 : (17 : Int32) = nI 17 := rfl
theorem n_18 : (18 : Int32) = nI 18 := rfl
theorem n_20 : (20 : Int32) = nI 20 := rfl
theorem n_24 : (24 : Int32) = nI 24 := rfl
theorem n_31 : (31 : Int32) = nI 31 := rfl
theorem n_48 : (48 : Int32) = nI 48 := rfl
theorem n_100 : (100 : Int32) = nI 100 := rfl
theorem n_120 : (120 : Int32) = nI 120 := rfl
theorem n_127 : (127 : Int32) = nI 127 := rfl
theorem n_128 : (128 : Int32) = nI 128 := rfl
theorem n_144 : (144 : Int32) = nI 144 := rfl
theorem n_165 : (165 : Int32) = nI 165 := rfl
theorem n_200 : (200 : Int32) = nI 200 := rfl
theorem n_255 : (255 : Int32) = nI 255 := rfl
theorem n_256 : (256 : Int32) = nI 256 := rfl
theorem n_263 : (263 : Int32) = nI 263 := rfl
theorem n_512 : (512 : Int32) = nI 512 := rfl
theorem n_513 : (513 : Int32) = nI 513 := rfl
theorem n_2048 : (2048 : Int32) = nI 2048 := rfl
theorem nT {n : Nat} (h : n < 2147483648) : (nI n).toInt = (n : Int) := nI_toInt h
theorem nC {n : Nat} (h : n < 2147483648) : (nI n).toNatClampNeg = n := nI_clamp h
theorem inB_of {x : Int32} {n : Nat} (h : inB x n) (hn : n < 2147483648) : ∃ j : Nat, j < n ∧ x = nI j := vp_in_of (vp_in_iff.mpr h) hn
theorem inB_n {j n : Nat} (h : j < n) (hn : n < 2147483648) : inB (nI j) n := by
  unfold inB
  rw [nT (by omega)]
  omega
/-- the ints of the cells of A alone may differ -/
def On (A : List Nat) (M M' : Mm) : Prop := M'.sh = M.sh ∧ M'.sz = M.sz ∧ M'.sl = M.sl ∧ M'.lg = M.lg ∧ M'.rf = M.rf ∧ ∀ x, x ∉ A → ∀ j, M'.it x j = M.it x j
theorem On.rf_ {A : List Nat} {M : Mm} : On A M M := ⟨rfl, rfl, rfl, rfl, rfl, fun _ _ _ => rfl⟩
theorem On.put {A : List Nat} {M M' : Mm} {a k : Nat} {x : Int32} (h : On A M M') (ha : a ∈ A) : On A M (M'.si a k x) := by
  obtain ⟨h1, h2, h3, h4, h5, h6⟩ := h
  refine ⟨h1, h2, h3, h4, h5, fun y hy j => ?_⟩
  rw [si_it, if_neg (fun q => hy (by rw [q.1]; exact ha))]
  exact h6 y hy j
theorem On.trans {A B : List Nat} {M M' M2 : Mm} (h : On A M M') (g : On B M' M2) (hB : ∀ x ∈ B, x ∈ A) : On A M M2 := by
  obtain ⟨h1, h2, h3, h4, h5, h6⟩ := h
  obtain ⟨g1, g2, g3, g4, g5, g6⟩ := g
  exact ⟨g1.trans h1, g2.trans h2, g3.trans h3, g4.trans h4, g5.trans h5, fun y hy j => (g6 y (fun q => hy (hB y q)) j).trans (h6 y hy j)⟩
theorem On.mono {A B : List Nat} {M M' : Mm} (h : On B M M') (hB : ∀ x ∈ B, x ∈ A) : On A M M' := On.trans On.rf_ h hB
/-! static helpers of the class -/
theorem k39 {d : Nat} {M : Mm} {k : mQ} {x : Int32} (h1 : inB x 48 → k (some (.inl 1)) M) (h0 : ¬ inB x 48 → k (some (.inl 0)) M) : XC (d + 1) 39 [.inl x] M k := by
  refine xc ?_
  show X d 39 0 [some (.inl x)] [] M k
  refine vc_X 20 _ _ _ _ _ _ _ ?_
  simp only [↓v39_0, ↓v39_1, ↓v39_4, ↓v39_5, ↓v39_7, ↓v39_10, ↓v39_11, ↓v39_14, ↓v39_15, ↓qI_c, ↓qL_c, ↓qR_c, ↓pA_o, ↓qC_i, ↓qC_r, ↓oA_s, ↓gI_0, ↓gI_1, ↓gI_2, ↓gI_3, ↓gI_4, ↓gI_5, ↓gI_6, ↓gI_7, ↓gI_8, ↓gI_9, ↓gI_10, ↓gR_0, ↓gR_1, ↓gR_2, ↓gR_3, ↓gR_4, ↓gR_5, ↓gR_6, ↓gR_7, ↓gR_8, ↓gR_9, ↓gR_10, ↓sL_0, ↓sL_1, ↓sL_2, ↓sL_3, ↓sL_4, ↓sL_5, ↓sL_6, ↓sL_7, ↓sL_8, ↓sL_9, ↓sL_10, ↓rrf_si, ↓rrf_sg, ↓shO_si, ↓shO_sg, ↓shO_sr, ↓shA_si, ↓shA_sg, ↓shA_sr, ↓pAs_0, ↓pAs_i, ↓pAs_r, stk_n, stk_i, stk_l, stk_r, List.nil_append, List.cons_append, true_and, and_true, true_or, or_true, Nat.zero_add, dp_s, Nat.reduceAdd, le8_0, le8_1, le8_2, le8_3, le8_4, le8_5, le8_6, le8_7, le8_8, Classical.not_not, aT40, aT41, aT42, aT44, aT54, aT58, aT59, rT54, rT58, rT59, reduceIte, Nat.reduceEqDiff, qn_42, qn_44, true_implies, not_true_eq_false, not_false_eq_true, false_implies, lt_T, le_T, T_0, T_48]
  refine ⟨fun c => h0 fun h => ?_, fun c => ⟨fun c2 => h0 fun h => ?_, fun c2 => h1 ⟨by omega, by omega⟩⟩⟩
  · have := h.1; omega
  · have := h.2; omega
theorem k40 {d : Nat} {M : Mm} {k : mQ} {x : Int32} (h1 : inB x 8 → k (some (.inl 1)) M) (h0 : ¬ inB x 8 → k (some (.inl 0)) M) : XC (d + 1) 40 [.inl x] M k := by
  refine xc ?_
  show X d 40 0 [some (.inl x)] [] M k
  refine vc_X 20 _ _ _ _ _ _ _ ?_
  simp only [↓v40_0, ↓v40_1, ↓v40_4, ↓v40_5, ↓v40_7, ↓v40_10, ↓v40_11, ↓v40_14, ↓v40_15, ↓qI_c, ↓qL_c, ↓qR_c, ↓pA_o, ↓qC_i, ↓qC_r, ↓oA_s, ↓gI_0, ↓gI_1, ↓gI_2, ↓gI_3, ↓gI_4, ↓gI_5, ↓gI_6, ↓gI_7, ↓gI_8, ↓gI_9, ↓gI_10, ↓gR_0, ↓gR_1, ↓gR_2, ↓gR_3, ↓gR_4, ↓gR_5, ↓gR_6, ↓gR_7, ↓gR_8, ↓gR_9, ↓gR_10, ↓sL_0, ↓sL_1, ↓sL_2, ↓sL_3, ↓sL_4, ↓sL_5, ↓sL_6, ↓sL_7, ↓sL_8, ↓sL_9, ↓sL_10, ↓rrf_si, ↓rrf_sg, ↓shO_si, ↓shO_sg, ↓shO_sr, ↓shA_si, ↓shA_sg, ↓shA_sr, ↓pAs_0, ↓pAs_i, ↓pAs_r, stk_n, stk_i, stk_l, stk_r, List.nil_append, List.cons_append, true_and, and_true, true_or, or_true, Nat.zero_add, dp_s, Nat.reduceAdd, le8_0, le8_1, le8_2, le8_3, le8_4, le8_5, le8_6, le8_7, le8_8, Classical.not_not, aT40, aT41, aT42, aT44, aT54, aT58, aT59, rT54, rT58, rT59, reduceIte, Nat.reduceEqDiff, qn_42, qn_44, true_implies, not_true_eq_false, not_false_eq_true, false_implies, lt_T, le_T, T_0, T_8]
  refine ⟨fun c => h0 fun h => ?_, fun c => ⟨fun c2 => h0 fun h => ?_, fun c2 => h1 ⟨by omega, by omega⟩⟩⟩
  · have := h.1; omega
  · have := h.2; omega
theorem k29 {d : Nat} {M : Mm} {k : mQ} {n : Nat} (hn : n < 100000) (hk : k (some (.inl (nI ((n + 23) / 16)))) M) : XC (d + 1) 29 [.inl (nI n)] M k := by
  refine xc ?_
  show X d 29 0 [some (.inl (nI n))] [] M k
  refine vc_X 20 _ _ _ _ _ _ _ ?_
  simp only [↓v29_0, ↓v29_1, ↓v29_3, ↓v29_4, ↓v29_6, ↓v29_7, ↓v29_8, ↓v29_9, ↓v29_11, ↓v29_12, ↓qI_c, ↓qL_c, ↓qR_c, ↓pA_o, ↓qC_i, ↓qC_r, ↓oA_s, ↓gI_0, ↓gI_1, ↓gI_2, ↓gI_3, ↓gI_4, ↓gI_5, ↓gI_6, ↓gI_7, ↓gI_8, ↓gI_9, ↓gI_10, ↓gR_0, ↓gR_1, ↓gR_2, ↓gR_3, ↓gR_4, ↓gR_5, ↓gR_6, ↓gR_7, ↓gR_8, ↓gR_9, ↓gR_10, ↓sL_0, ↓sL_1, ↓sL_2, ↓sL_3, ↓sL_4, ↓sL_5, ↓sL_6, ↓sL_7, ↓sL_8, ↓sL_9, ↓sL_10, ↓rrf_si, ↓rrf_sg, ↓shO_si, ↓shO_sg, ↓shO_sr, ↓shA_si, ↓shA_sg, ↓shA_sr, ↓pAs_0, ↓pAs_i, ↓pAs_r, stk_n, stk_i, stk_l, stk_r, List.nil_append, List.cons_append, true_and, and_true, true_or, or_true, Nat.zero_add, dp_s, Nat.reduceAdd, le8_0, le8_1, le8_2, le8_3, le8_4, le8_5, le8_6, le8_7, le8_8, Classical.not_not, aT40, aT41, aT42, aT44, aT54, aT58, aT59, rT54, rT58, rT59, reduceIte, Nat.reduceEqDiff, qn_42, qn_44, true_implies, not_true_eq_false, not_false_eq_true, false_implies]
  refine ⟨by decide, ?_⟩
  rw [n_8, n_16, n_1, nI_add, nI_add, pk_sub (by omega), pk_div (by omega) (by omega) (by omega)]
  exact hk
theorem k67 {d : Nat} {M : Mm} {k : mQ} {n : Nat} (hk : k (some (.inl (nI (1 + 3 * n)))) M) : XC (d + 1) 67 [.inl (nI n)] M k := by
  refine xc ?_
  show X d 67 0 [some (.inl (nI n))] [] M k
  refine vc_X 20 _ _ _ _ _ _ _ ?_
  simp only [↓v67_0, ↓v67_1, ↓v67_2, ↓v67_3, ↓v67_4, ↓v67_5, ↓qI_c, ↓qL_c, ↓qR_c, ↓pA_o, ↓qC_i, ↓qC_r, ↓oA_s, ↓gI_0, ↓gI_1, ↓gI_2, ↓gI_3, ↓gI_4, ↓gI_5, ↓gI_6, ↓gI_7, ↓gI_8, ↓gI_9, ↓gI_10, ↓gR_0, ↓gR_1, ↓gR_2, ↓gR_3, ↓gR_4, ↓gR_5, ↓gR_6, ↓gR_7, ↓gR_8, ↓gR_9, ↓gR_10, ↓sL_0, ↓sL_1, ↓sL_2, ↓sL_3, ↓sL_4, ↓sL_5, ↓sL_6, ↓sL_7, ↓sL_8, ↓sL_9, ↓sL_10, ↓rrf_si, ↓rrf_sg, ↓shO_si, ↓shO_sg, ↓shO_sr, ↓shA_si, ↓shA_sg, ↓shA_sr, ↓pAs_0, ↓pAs_i, ↓pAs_r, stk_n, stk_i, stk_l, stk_r, List.nil_append, List.cons_append, true_and, and_true, true_or, or_true, Nat.zero_add, dp_s, Nat.reduceAdd, le8_0, le8_1, le8_2, le8_3, le8_4, le8_5, le8_6, le8_7, le8_8, Classical.not_not, aT40, aT41, aT42, aT44, aT54, aT58, aT59, rT54, rT58, rT59, reduceIte, Nat.reduceEqDiff, qn_42, qn_44, true_implies, not_true_eq_false, not_false_eq_true, false_implies]
  rw [n_3, n_1, pk_mul, nI_add]
  exact hk
