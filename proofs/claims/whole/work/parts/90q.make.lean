/-! constructors -/
def Gw (a n l : Nat) (M M' : Mm) : Prop := M'.sz = M.sz + n ∧ M'.sl = M.sl + l ∧ Ag (fun y => y < M.sz ∧ y ≠ a) M M'
theorem Gw.trans {a n l n2 l2 : Nat} {M M' M2 : Mm} (h : Gw a n l M M') (g : Gw a n2 l2 M' M2) : Gw a (n + n2) (l + l2) M M2 := by
  obtain ⟨h1, h2, h3⟩ := h
  obtain ⟨g1, g2, g3⟩ := g
  exact ⟨by omega, by omega, h3.trans g3 (fun x hx => ⟨by omega, hx.2⟩)⟩
theorem Gw.nw (a : Nat) (M : Mm) (t : Nat × Nat) (n : Nat) : Gw a 1 n M (M.nw t n) := ⟨rfl, rfl, (nw_ag M t n).mono (fun x hx => hx.1)⟩
theorem Gw.of {a : Nat} {M M' : Mm} (o : Of (· = a) M M') : Gw a 0 0 M M' := ⟨o.2.1, o.2.2.1, o.ag (fun x hx hP => hx.2 hP)⟩
theorem cl6 : (6 : Int32).toNatClampNeg = 6 := rfl
theorem cl8 : (8 : Int32).toNatClampNeg = 8 := rfl
theorem cl16 : (16 : Int32).toNatClampNeg = 16 := rfl
theorem cl48 : (48 : Int32).toNatClampNeg = 48 := rfl
theorem cl2 : (2 : Int32).toNatClampNeg = 2 := rfl
theorem cl3 : (3 : Int32).toNatClampNeg = 3 := rfl
theorem cl0 : (0 : Int32).toNatClampNeg = 0 := rfl
theorem cl120 : (120 : Int32).toNatClampNeg = 120 := rfl
theorem cl128 : (128 : Int32).toNatClampNeg = 128 := rfl
theorem cl513 : (513 : Int32).toNatClampNeg = 513 := rfl
theorem cl2048 : (2048 : Int32).toNatClampNeg = 2048 := rfl
theorem k13 {d : Nat} {M : Mm} {k : mQ} {a N : Nat} (h : M.sh a = some (1, 0)) (hc : M.it a 1 = 0) (ha : a < M.sz) (hN : N < 100000) (hk : ∀ M', BC M' a M.sz N [] → Gw a 1 N M M' → k none M') : XC (d + 2) 13 [.inr (some a), .inl (nI N)] M k := by
  have emx : imax (nI N) 0 = nI N := by
    unfold imax
    rw [if_neg (by rw [lt_T, T_0, nT (by omega)]; omega)]
  generalize hM1 : M.nw (41, N) N = M1
  have g1 : Gw a 1 N M M1 := by rw [← hM1]; exact Gw.nw a M _ _
  have s1 : M1.sh a = some (1, 0) := by rw [← hM1, nw_sh, if_neg (by omega)]; exact h
  have s2 : M1.sh M.sz = some (41, N) := by rw [← hM1, nw_sh, if_pos rfl]
  have c1 : M1.it a 1 = 0 := by rw [← hM1, nw_it, if_neg (by omega)]; exact hc
  refine xc ?_
  show X (d + 1) 13 0 [some (.inr (some a)), some (.inl (nI N))] [] M k
  refine vc_X 30 _ _ _ _ _ _ _ ?_
  simp only [↓v13_0, ↓v13_1, ↓v13_4, ↓v13_5, ↓v13_6, ↓v13_7, ↓v13_10, ↓v13_12, ↓v13_15, ↓qI_c, ↓qL_c, ↓qR_c, ↓pA_o, ↓qC_i, ↓qC_r, ↓oA_s, ↓gI_0, ↓gI_1, ↓gI_2, ↓gI_3, ↓gI_4, ↓gI_5, ↓gI_6, ↓gI_7, ↓gI_8, ↓gI_9, ↓gI_10, ↓gR_0, ↓gR_1, ↓gR_2, ↓gR_3, ↓gR_4, ↓gR_5, ↓gR_6, ↓gR_7, ↓gR_8, ↓gR_9, ↓gR_10, ↓sL_0, ↓sL_1, ↓sL_2, ↓sL_3, ↓sL_4, ↓sL_5, ↓sL_6, ↓sL_7, ↓sL_8, ↓sL_9, ↓sL_10, ↓rrf_si, ↓rrf_sg, ↓shO_si, ↓shO_sg, ↓shO_sr, ↓shA_si, ↓shA_sg, ↓shA_sr, ↓pAs_0, ↓pAs_i, ↓pAs_r, stk_n, stk_i, stk_l, stk_r, List.nil_append, List.cons_append, true_and, and_true, true_or, or_true, Nat.zero_add, dp_s, Nat.reduceAdd, le8_0, le8_1, le8_2, le8_3, le8_4, le8_5, le8_6, le8_7, le8_8, Classical.not_not, aT40, aT41, aT42, aT44, aT54, aT58, aT59, rT54, rT58, rT59, reduceIte, Nat.reduceEqDiff, qn_42, qn_44, true_implies, not_true_eq_false, not_false_eq_true, false_implies, emx, T_0, nT (show N < 2147483648 by omega), nC (show N < 2147483648 by omega), hM1, ↓shO_of s1]
  refine ⟨by omega, by omega, ?_⟩
  have o : Of (· = a) M1 (M1.sr a 0 (some M.sz)) := (Of.rf_ : Of (· = a) M1 M1).r rfl
  refine hk _ ⟨⟨s1, ?_, s2, hN⟩, c1, Nat.zero_le _, fun j v hj => by simp at hj⟩ (g1.trans (Gw.of o))
  rw [sr_rf, if_pos ⟨rfl, rfl⟩]
theorem k8 {d : Nat} {M : Mm} {k : mQ} {a : Nat} (h : M.sh a = some (6, 0)) (ha : a < M.sz) (hk : ∀ M', LaC M' a M.sz (fun _ => 0) none → Gw a 1 8 M M' → k none M') : XC (d + 2) 8 [.inr (some a)] M k := by
  generalize hM1 : M.nw (41, 8) 8 = M1
  have g1 : Gw a 1 8 M M1 := by rw [← hM1]; exact Gw.nw a M _ _
  have s1 : M1.sh a = some (6, 0) := by rw [← hM1, nw_sh, if_neg (by omega)]; exact h
  have s2 : M1.sh M.sz = some (41, 8) := by rw [← hM1, nw_sh, if_pos rfl]
  have z : ∀ j, M1.it M.sz j = 0 := fun j => by rw [← hM1, nw_it, if_pos rfl]
  refine xc ?_
  show X (d + 1) 8 0 [some (.inr (some a))] [] M k
  refine vc_X 30 _ _ _ _ _ _ _ ?_
  simp only [↓v8_0, ↓v8_1, ↓v8_4, ↓v8_5, ↓v8_7, ↓v8_9, ↓v8_12, ↓v8_13, ↓v8_14, ↓v8_17, ↓qI_c, ↓qL_c, ↓qR_c, ↓pA_o, ↓qC_i, ↓qC_r, ↓oA_s, ↓gI_0, ↓gI_1, ↓gI_2, ↓gI_3, ↓gI_4, ↓gI_5, ↓gI_6, ↓gI_7, ↓gI_8, ↓gI_9, ↓gI_10, ↓gR_0, ↓gR_1, ↓gR_2, ↓gR_3, ↓gR_4, ↓gR_5, ↓gR_6, ↓gR_7, ↓gR_8, ↓gR_9, ↓gR_10, ↓sL_0, ↓sL_1, ↓sL_2, ↓sL_3, ↓sL_4, ↓sL_5, ↓sL_6, ↓sL_7, ↓sL_8, ↓sL_9, ↓sL_10, ↓rrf_si, ↓rrf_sg, ↓shO_si, ↓shO_sg, ↓shO_sr, ↓shA_si, ↓shA_sg, ↓shA_sr, ↓pAs_0, ↓pAs_i, ↓pAs_r, stk_n, stk_i, stk_l, stk_r, List.nil_append, List.cons_append, true_and, and_true, true_or, or_true, Nat.zero_add, dp_s, Nat.reduceAdd, le8_0, le8_1, le8_2, le8_3, le8_4, le8_5, le8_6, le8_7, le8_8, Classical.not_not, aT40, aT41, aT42, aT44, aT54, aT58, aT59, rT54, rT58, rT59, reduceIte, Nat.reduceEqDiff, qn_42, qn_44, true_implies, not_true_eq_false, not_false_eq_true, false_implies, T_8, cl8, hM1, ↓shO_of s1]
  refine ⟨by omega, by omega, ?_⟩
  have o : Of (· = a) M1 ((M1.sr a 0 (some M.sz)).si a 1 (-1)) := ((Of.rf_ : Of (· = a) M1 M1).r rfl).i rfl
  refine hk _ ⟨⟨s1, ?_, s2⟩, fun e he => ⟨?_, Nat.zero_le _⟩, ?_, fun e he => by cases he⟩ (g1.trans (Gw.of o))
  · show (M1.sr a 0 (some M.sz)).rf a 0 = _
    rw [sr_rf, if_pos ⟨rfl, rfl⟩]
  · rw [si_it, if_neg (by omega), sr_it, z]; rfl
  · rw [si_it, if_pos ⟨rfl, rfl⟩]; rfl
theorem k7 {d : Nat} {M : Mm} {k : mQ} {a : Nat} (h : M.sh a = some (2, 0)) (ha : a + 1 = M.sz) (h1 : M.it a 1 = 0) (h2 : M.it a 2 = 0) (hk : ∀ M', CaC M' a [] 0 → Gw a 1 6 M M' → k none M') : XC (d + 2) 7 [.inr (some a)] M k := by
  generalize hM1 : M.nw (41, 6) 6 = M1
  have g1 : Gw a 1 6 M M1 := by rw [← hM1]; exact Gw.nw a M _ _
  have s1 : M1.sh a = some (2, 0) := by rw [← hM1, nw_sh, if_neg (by omega)]; exact h
  have s2 : M1.sh (a + 1) = some (41, 6) := by rw [ha, ← hM1, nw_sh, if_pos rfl]
  have e1 : M1.it a 1 = 0 := by rw [← hM1, nw_it, if_neg (by omega)]; exact h1
  have e2 : M1.it a 2 = 0 := by rw [← hM1, nw_it, if_neg (by omega)]; exact h2
  refine xc ?_
  show X (d + 1) 7 0 [some (.inr (some a))] [] M k
  refine vc_X 30 _ _ _ _ _ _ _ ?_
  simp only [↓v7_0, ↓v7_1, ↓v7_4, ↓v7_5, ↓v7_7, ↓v7_9, ↓v7_12, ↓qI_c, ↓qL_c, ↓qR_c, ↓pA_o, ↓qC_i, ↓qC_r, ↓oA_s, ↓gI_0, ↓gI_1, ↓gI_2, ↓gI_3, ↓gI_4, ↓gI_5, ↓gI_6, ↓gI_7, ↓gI_8, ↓gI_9, ↓gI_10, ↓gR_0, ↓gR_1, ↓gR_2, ↓gR_3, ↓gR_4, ↓gR_5, ↓gR_6, ↓gR_7, ↓gR_8, ↓gR_9, ↓gR_10, ↓sL_0, ↓sL_1, ↓sL_2, ↓sL_3, ↓sL_4, ↓sL_5, ↓sL_6, ↓sL_7, ↓sL_8, ↓sL_9, ↓sL_10, ↓rrf_si, ↓rrf_sg, ↓shO_si, ↓shO_sg, ↓shO_sr, ↓shA_si, ↓shA_sg, ↓shA_sr, ↓pAs_0, ↓pAs_i, ↓pAs_r, stk_n, stk_i, stk_l, stk_r, List.nil_append, List.cons_append, true_and, and_true, true_or, or_true, Nat.zero_add, dp_s, Nat.reduceAdd, le8_0, le8_1, le8_2, le8_3, le8_4, le8_5, le8_6, le8_7, le8_8, Classical.not_not, aT40, aT41, aT42, aT44, aT54, aT58, aT59, rT54, rT58, rT59, reduceIte, Nat.reduceEqDiff, qn_42, qn_44, true_implies, not_true_eq_false, not_false_eq_true, false_implies, T_6, cl6, hM1, ↓shO_of s1]
  refine ⟨by omega, by omega, ?_⟩
  have o : Of (· = a) M1 (M1.sr a 0 (some M.sz)) := (Of.rf_ : Of (· = a) M1 M1).r rfl
  refine hk _ ⟨⟨s1, ?_, s2⟩, e1, by simp, fun j v hj => by simp at hj, e2⟩ (g1.trans (Gw.of o))
  rw [sr_rf, if_pos ⟨rfl, rfl⟩, ha]
theorem k6 {d : Nat} {M : Mm} {k : mQ} {a s : Nat} (h : M.sh a = some (9, 0)) (ha : a + 1 = M.sz) (hs : s < 120) (hk : ∀ M', Wr M' a s → Gw a 1 16 M M' → k none M') : XC (d + 2) 6 [.inr (some a), .inl (nI s)] M k := by
  generalize hM1 : M.nw (41, 16) 16 = M1
  have g1 : Gw a 1 16 M M1 := by rw [← hM1]; exact Gw.nw a M _ _
  have s1 : M1.sh a = some (9, 0) := by rw [← hM1, nw_sh, if_neg (by omega)]; exact h
  have s2 : M1.sh (a + 1) = some (41, 16) := by rw [ha, ← hM1, nw_sh, if_pos rfl]
  refine xc ?_
  show X (d + 1) 6 0 [some (.inr (some a)), some (.inl (nI s))] [] M k
  refine vc_X 30 _ _ _ _ _ _ _ ?_
  simp only [↓v6_0, ↓v6_1, ↓v6_4, ↓v6_5, ↓v6_7, ↓v6_9, ↓v6_12, ↓v6_13, ↓v6_14, ↓v6_17, ↓qI_c, ↓qL_c, ↓qR_c, ↓pA_o, ↓qC_i, ↓qC_r, ↓oA_s, ↓gI_0, ↓gI_1, ↓gI_2, ↓gI_3, ↓gI_4, ↓gI_5, ↓gI_6, ↓gI_7, ↓gI_8, ↓gI_9, ↓gI_10, ↓gR_0, ↓gR_1, ↓gR_2, ↓gR_3, ↓gR_4, ↓gR_5, ↓gR_6, ↓gR_7, ↓gR_8, ↓gR_9, ↓gR_10, ↓sL_0, ↓sL_1, ↓sL_2, ↓sL_3, ↓sL_4, ↓sL_5, ↓sL_6, ↓sL_7, ↓sL_8, ↓sL_9, ↓sL_10, ↓rrf_si, ↓rrf_sg, ↓shO_si, ↓shO_sg, ↓shO_sr, ↓shA_si, ↓shA_sg, ↓shA_sr, ↓pAs_0, ↓pAs_i, ↓pAs_r, stk_n, stk_i, stk_l, stk_r, List.nil_append, List.cons_append, true_and, and_true, true_or, or_true, Nat.zero_add, dp_s, Nat.reduceAdd, le8_0, le8_1, le8_2, le8_3, le8_4, le8_5, le8_6, le8_7, le8_8, Classical.not_not, aT40, aT41, aT42, aT44, aT54, aT58, aT59, rT54, rT58, rT59, reduceIte, Nat.reduceEqDiff, qn_42, qn_44, true_implies, not_true_eq_false, not_false_eq_true, false_implies, T_16, cl16, hM1, ↓shO_of s1]
  refine ⟨by omega, by omega, ?_⟩
  have o : Of (· = a) M1 ((M1.sr a 1 (some M.sz)).si a 0 (nI s)) := ((Of.rf_ : Of (· = a) M1 M1).r rfl).i rfl
  refine hk _ ⟨s1, ?_, s2, ?_, hs⟩ (g1.trans (Gw.of o))
  · show (M1.sr a 1 (some M.sz)).rf a 1 = _
    rw [sr_rf, if_pos ⟨rfl, rfl⟩, ha]
  · rw [si_it, if_pos ⟨rfl, rfl⟩]
theorem k10 {d : Nat} {M : Mm} {k : mQ} {a : Nat} (h : M.sh a = some (4, 0)) (ha : a + 1 = M.sz) (hk : ∀ M', EnC M' a (a + 1) (fun _ => none) none → Gw a 1 48 M M' → k none M') : XC (d + 3) 10 [.inr (some a)] M k := by
  generalize hM1 : M.nw (41, 48) 48 = M1
  have g1 : Gw a 1 48 M M1 := by rw [← hM1]; exact Gw.nw a M _ _
  have s1 : M1.sh a = some (4, 0) := by rw [← hM1, nw_sh, if_neg (by omega)]; exact h
  have s2 : M1.sh (a + 1) = some (41, 48) := by rw [ha, ← hM1, nw_sh, if_pos rfl]
  generalize hM2 : (M1.sr a 0 (some M.sz)).si a 2 (-1) = M2
  have o2 : Of (· = a) M1 M2 := by rw [← hM2]; exact ((Of.rf_ : Of (· = a) M1 M1).r rfl).i rfl
  have en : En M2 a (a + 1) := ⟨by rw [o2.1]; exact s1, by rw [← hM2]; show (M1.sr a 0 (some M.sz)).rf a 0 = _; rw [sr_rf, if_pos ⟨rfl, rfl⟩, ha], by rw [o2.1]; exact s2⟩
  refine xc ?_
  show X (d + 2) 10 0 [some (.inr (some a))] [] M k
  refine vc_X 30 _ _ _ _ _ _ _ ?_
  simp only [↓v10_0, ↓v10_1, ↓v10_4, ↓v10_5, ↓v10_7, ↓v10_9, ↓v10_12, ↓v10_13, ↓v10_14, ↓v10_17, ↓v10_18, ↓v10_21, ↓qI_c, ↓qL_c, ↓qR_c, ↓pA_o, ↓qC_i, ↓qC_r, ↓oA_s, ↓gI_0, ↓gI_1, ↓gI_2, ↓gI_3, ↓gI_4, ↓gI_5, ↓gI_6, ↓gI_7, ↓gI_8, ↓gI_9, ↓gI_10, ↓gR_0, ↓gR_1, ↓gR_2, ↓gR_3, ↓gR_4, ↓gR_5, ↓gR_6, ↓gR_7, ↓gR_8, ↓gR_9, ↓gR_10, ↓sL_0, ↓sL_1, ↓sL_2, ↓sL_3, ↓sL_4, ↓sL_5, ↓sL_6, ↓sL_7, ↓sL_8, ↓sL_9, ↓sL_10, ↓rrf_si, ↓rrf_sg, ↓shO_si, ↓shO_sg, ↓shO_sr, ↓shA_si, ↓shA_sg, ↓shA_sr, ↓pAs_0, ↓pAs_i, ↓pAs_r, stk_n, stk_i, stk_l, stk_r, List.nil_append, List.cons_append, true_and, and_true, true_or, or_true, Nat.zero_add, dp_s, Nat.reduceAdd, le8_0, le8_1, le8_2, le8_3, le8_4, le8_5, le8_6, le8_7, le8_8, Classical.not_not, aT40, aT41, aT42, aT44, aT54, aT58, aT59, rT54, rT58, rT59, reduceIte, Nat.reduceEqDiff, qn_42, qn_44, true_implies, not_true_eq_false, not_false_eq_true, false_implies, T_48, cl48, hM1, ↓shO_of s1, hM2]
  refine ⟨by omega, by omega, ?_⟩
  refine k11 en (fun M3 e3 o3 => ⟨rfl, ?_⟩)
  refine vc_X 20 _ _ _ _ _ _ _ ?_
  simp only [↓v10_0, ↓v10_1, ↓v10_4, ↓v10_5, ↓v10_7, ↓v10_9, ↓v10_12, ↓v10_13, ↓v10_14, ↓v10_17, ↓v10_18, ↓v10_21, ↓qI_c, ↓qL_c, ↓qR_c, ↓pA_o, ↓qC_i, ↓qC_r, ↓oA_s, ↓gI_0, ↓gI_1, ↓gI_2, ↓gI_3, ↓gI_4, ↓gI_5, ↓gI_6, ↓gI_7, ↓gI_8, ↓gI_9, ↓gI_10, ↓gR_0, ↓gR_1, ↓gR_2, ↓gR_3, ↓gR_4, ↓gR_5, ↓gR_6, ↓gR_7, ↓gR_8, ↓gR_9, ↓gR_10, ↓sL_0, ↓sL_1, ↓sL_2, ↓sL_3, ↓sL_4, ↓sL_5, ↓sL_6, ↓sL_7, ↓sL_8, ↓sL_9, ↓sL_10, ↓rrf_si, ↓rrf_sg, ↓shO_si, ↓shO_sg, ↓shO_sr, ↓shA_si, ↓shA_sg, ↓shA_sr, ↓pAs_0, ↓pAs_i, ↓pAs_r, stk_n, stk_i, stk_l, stk_r, List.nil_append, List.cons_append, true_and, and_true, true_or, or_true, Nat.zero_add, dp_s, Nat.reduceAdd, le8_0, le8_1, le8_2, le8_3, le8_4, le8_5, le8_6, le8_7, le8_8, Classical.not_not, aT40, aT41, aT42, aT44, aT54, aT58, aT59, rT54, rT58, rT59, reduceIte, Nat.reduceEqDiff, qn_42, qn_44, true_implies, not_true_eq_false, not_false_eq_true, false_implies]
  have z2 : M2.sz = M.sz + 1 := by rw [o2.2.1]; exact g1.1
  refine hk M3 e3 ⟨by rw [o3.2.1, z2], by rw [o3.2.2.1, o2.2.2.1]; exact g1.2.1, ?_⟩
  exact ((g1.trans (Gw.of o2)).2.2).trans ((o3.of (P := fun y => y = a ∨ y = a + 1) (fun x hx => by simpa using hx)).ag (R := fun y => ¬ (y = a ∨ y = a + 1)) (fun _ h => h)) (fun x hx => by omega)
theorem k3 {d : Nat} {M : Mm} {k : mQ} {a : Nat} (h : M.sh a = some (3, 0)) (ha : a + 1 = M.sz) (hk : ∀ M', DkC M' a (fun _ => 0) → M'.rf (a + 2) 0 = some (a + 3) → M'.rf (a + 2) 1 = none → ReC M' (a + 3) r00 → Gw a 5 2063 M M' → k none M') : XC (d + 3) 3 [.inr (some a)] M k := by
  generalize hM1 : M.nw (41, 2048) 2048 = M1
  have s1 : M1.sh a = some (3, 0) := by rw [← hM1, nw_sh, if_neg (by omega)]; exact h
  have z1 : M1.sz = a + 2 := by rw [← hM1]; show M.sz + 1 = _; omega
  have t1 : M1.sh (a + 1) = some (41, 2048) := by rw [← hM1, nw_sh, if_pos ha]
  have i1 : ∀ j, M1.it (a + 1) j = 0 := fun j => by rw [← hM1, nw_it, if_pos ha]
  generalize hM2 : M1.sr a 0 (some M.sz) = M2
  have o2 : Of (· = a) M1 M2 := by rw [← hM2]; exact (Of.rf_ : Of (· = a) M1 M1).r rfl
  have f2 : M2.rf a 0 = some (a + 1) := by rw [← hM2, sr_rf, if_pos ⟨rfl, rfl⟩, ha]
  have z2 : M2.sz = a + 2 := by rw [o2.2.1]; exact z1
  generalize hM3 : M2.nw (58, 2) 2 = M3
  have z3 : M3.sz = a + 3 := by rw [← hM3]; show M2.sz + 1 = _; omega
  have g3 : Ag (fun y => y < M2.sz) M2 M3 := by rw [← hM3]; exact nw_ag _ _ _
  have t3 : M3.sh (a + 2) = some (58, 2) := by rw [← hM3, nw_sh, if_pos (by omega)]
  have r3 : ∀ j, M3.rf (a + 2) j = none := fun j => by rw [← hM3, nw_rf, if_pos (by omega)]
  have s3 : M3.sh a = some (3, 0) := by rw [g3.sh (show a < M2.sz by omega), o2.1]; exact s1
  generalize hM4 : M3.sr a 1 (some (a + 2)) = M4
  have o4 : Of (· = a) M3 M4 := by rw [← hM4]; exact (Of.rf_ : Of (· = a) M3 M3).r rfl
  have z4 : M4.sz = a + 3 := by rw [o4.2.1]; exact z3
  have s4 : M4.sh a = some (3, 0) := by rw [o4.1]; exact s3
  have f4 : M4.rf a 1 = some (a + 2) := by rw [← hM4, sr_rf, if_pos ⟨rfl, rfl⟩]
  have f40 : M4.rf a 0 = some (a + 1) := by rw [← hM4, sr_rf, if_neg (by simp), g3.rf (show a < M2.sz by omega)]; exact f2
  generalize hM5 : M4.nw (8, 0) 5 = M5
  have z5 : M5.sz = a + 4 := by rw [← hM5]; show M4.sz + 1 = _; omega
  generalize hM6 : M5.nw (41, 8) 8 = M6
  have z6 : M6.sz = a + 5 := by rw [← hM6]; show M5.sz + 1 = _; omega
  generalize hM7 : M6.nw (41, 0) 0 = M7
  have g7 : Ag (fun y => y < M4.sz) M4 M7 := by
    rw [← hM7, ← hM6, ← hM5]
    exact ((nw_ag M4 _ _).trans (nw_ag _ _ _) (fun x hx => by show x < M4.sz + 1; have : x < M4.sz := hx; omega)).trans (nw_ag _ _ _) (fun x hx => by show x < M4.sz + 1 + 1; have : x < M4.sz := hx; omega)
  have z7 : M7.sz = a + 6 := by rw [← hM7]; show M6.sz + 1 = _; omega
  have l7 : M7.sl = M.sl + 2063 := by
    rw [← hM7, ← hM6, ← hM5]
    show M4.sl + 5 + 8 + 0 = _
    rw [o4.2.2.1, ← hM3]
    show M2.sl + 2 + 5 + 8 + 0 = _
    rw [o2.2.2.1, ← hM1]
    show M.sl + 2048 + 2 + 5 + 8 + 0 = _
    omega
  have s7 : M7.sh (a + 3) = some (8, 0) := by rw [← hM7, nw_sh, if_neg (by omega), ← hM6, nw_sh, if_neg (by omega), ← hM5, nw_sh, if_pos z4.symm]
  have s74 : M7.sh (a + 4) = some (41, 8) := by rw [← hM7, nw_sh, if_neg (by omega), ← hM6, nw_sh, if_pos z5.symm]
  have s75 : M7.sh (a + 5) = some (41, 0) := by rw [← hM7, nw_sh, if_pos z6.symm]
  have i74 : ∀ j, M7.it (a + 4) j = 0 := fun j => by rw [← hM7, nw_it, if_neg (by omega), ← hM6, nw_it, if_pos z5.symm]
  refine xc ?_
  show X (d + 2) 3 0 [some (.inr (some a))] [] M k
  refine vc_X 60 _ _ _ _ _ _ _ ?_
  simp only [↓v3_0, ↓v3_1, ↓v3_4, ↓v3_5, ↓v3_8, ↓v3_10, ↓v3_13, ↓v3_14, ↓v3_15, ↓v3_18, ↓v3_21, ↓v3_22, ↓v3_25, ↓v3_26, ↓v3_29, ↓v3_30, ↓v3_31, ↓v3_32, ↓v3_33, ↓v3_35, ↓v3_37, ↓v3_38, ↓v3_40, ↓v3_43, ↓v3_44, ↓qI_c, ↓qL_c, ↓qR_c, ↓pA_o, ↓qC_i, ↓qC_r, ↓oA_s, ↓gI_0, ↓gI_1, ↓gI_2, ↓gI_3, ↓gI_4, ↓gI_5, ↓gI_6, ↓gI_7, ↓gI_8, ↓gI_9, ↓gI_10, ↓gR_0, ↓gR_1, ↓gR_2, ↓gR_3, ↓gR_4, ↓gR_5, ↓gR_6, ↓gR_7, ↓gR_8, ↓gR_9, ↓gR_10, ↓sL_0, ↓sL_1, ↓sL_2, ↓sL_3, ↓sL_4, ↓sL_5, ↓sL_6, ↓sL_7, ↓sL_8, ↓sL_9, ↓sL_10, ↓rrf_si, ↓rrf_sg, ↓shO_si, ↓shO_sg, ↓shO_sr, ↓shA_si, ↓shA_sg, ↓shA_sr, ↓pAs_0, ↓pAs_i, ↓pAs_r, stk_n, stk_i, stk_l, stk_r, List.nil_append, List.cons_append, true_and, and_true, true_or, or_true, Nat.zero_add, dp_s, Nat.reduceAdd, le8_0, le8_1, le8_2, le8_3, le8_4, le8_5, le8_6, le8_7, le8_8, Classical.not_not, aT40, aT41, aT42, aT44, aT54, aT58, aT59, rT54, rT58, rT59, reduceIte, Nat.reduceEqDiff, qn_42, qn_44, true_implies, not_true_eq_false, not_false_eq_true, false_implies, T_2048, cl2048, T_2, cl2, hM1, ↓shO_of s1, hM2, z2, hM3, hM4, ↓shO_of s3, ↓shO_of s4, ↓rrf_of f4, T_8, cl8, T_0, cl0, z4, hM5, z5, hM6, z6, hM7]
  refine ⟨by omega, by omega, by omega, by omega, by omega, by omega, by omega, by omega, ?_⟩
  refine k4 s7 (fun M8 n0 n1 n2 n3 n4 o8 => ⟨rfl, ?_⟩)
  have t8 : M8.sh (a + 2) = some (58, 2) := by rw [o8.1, g7.sh (show a + 2 < M4.sz by omega), o4.1]; exact t3
  have s8 : M8.sh (a + 3) = some (8, 0) := by rw [o8.1]; exact s7
  refine vc_X 30 _ _ _ _ _ _ _ ?_
  simp only [↓v3_0, ↓v3_1, ↓v3_4, ↓v3_5, ↓v3_8, ↓v3_10, ↓v3_13, ↓v3_14, ↓v3_15, ↓v3_18, ↓v3_21, ↓v3_22, ↓v3_25, ↓v3_26, ↓v3_29, ↓v3_30, ↓v3_31, ↓v3_32, ↓v3_33, ↓v3_35, ↓v3_37, ↓v3_38, ↓v3_40, ↓v3_43, ↓v3_44, ↓qI_c, ↓qL_c, ↓qR_c, ↓pA_o, ↓qC_i, ↓qC_r, ↓oA_s, ↓gI_0, ↓gI_1, ↓gI_2, ↓gI_3, ↓gI_4, ↓gI_5, ↓gI_6, ↓gI_7, ↓gI_8, ↓gI_9, ↓gI_10, ↓gR_0, ↓gR_1, ↓gR_2, ↓gR_3, ↓gR_4, ↓gR_5, ↓gR_6, ↓gR_7, ↓gR_8, ↓gR_9, ↓gR_10, ↓sL_0, ↓sL_1, ↓sL_2, ↓sL_3, ↓sL_4, ↓sL_5, ↓sL_6, ↓sL_7, ↓sL_8, ↓sL_9, ↓sL_10, ↓rrf_si, ↓rrf_sg, ↓shO_si, ↓shO_sg, ↓shO_sr, ↓shA_si, ↓shA_sg, ↓shA_sr, ↓pAs_0, ↓pAs_i, ↓pAs_r, stk_n, stk_i, stk_l, stk_r, List.nil_append, List.cons_append, true_and, and_true, true_or, or_true, Nat.zero_add, dp_s, Nat.reduceAdd, le8_0, le8_1, le8_2, le8_3, le8_4, le8_5, le8_6, le8_7, le8_8, Classical.not_not, aT40, aT41, aT42, aT44, aT54, aT58, aT59, rT54, rT58, rT59, reduceIte, Nat.reduceEqDiff, qn_42, qn_44, true_implies, not_true_eq_false, not_false_eq_true, false_implies, ↓shA_of t8, cl0]
  refine ⟨inB_n (j := 0) (by omega) (by omega), fun b' hb' => by cases hb'; exact s8, ?_⟩
  generalize hM9 : M8.sr (a + 2) 0 (some (a + 3)) = M9
  have o9 : Of (· = a + 2) M8 M9 := by rw [← hM9]; exact (Of.rf_ : Of (· = a + 2) M8 M8).r rfl
  have it9 : ∀ x, x ≠ a + 3 → ∀ j, M9.it x j = M7.it x j := fun x hx j => by rw [← hM9, sr_it, (o8.2.2.2 x hx j).1]
  have g4 : Ag (fun y => y < M.sz ∧ y ≠ a) M M4 := by
    refine (((((nw_ag M (41, 2048) 2048).mono (R := fun y => y < M.sz ∧ y ≠ a) (fun x hx => hx.1)).trans (R := fun y => y ≠ a) ?_ (fun x hx => hx.2)).trans g3 (fun x hx => by have : x < M.sz := hx.1; show x < M2.sz; omega)).trans (o4.ag (R := fun y => y ≠ a) (fun x hx hP => hx hP)) (fun x hx => hx.2))
    rw [hM1]
    exact o2.ag (fun x hx hP => hx hP)
  refine hk M9 ⟨⟨?_, ?_, ?_, ?_, ?_⟩, fun j hj => ⟨?_, (by show 0 < 256; omega)⟩⟩ ?_ ?_ ?_ ⟨?_, ?_, ?_⟩
  · rw [o9.1, o8.1, g7.sh (show a < M4.sz by omega)]; exact s4
  · rw [(o9.2.2.2 a (by omega) 0).2.2, (o8.2.2.2 a (by omega) 0).2.2, g7.rf (show a < M4.sz by omega)]; exact f40
  · rw [(o9.2.2.2 a (by omega) 1).2.2, (o8.2.2.2 a (by omega) 1).2.2, g7.rf (show a < M4.sz by omega)]; exact f4
  · rw [o9.1, o8.1, g7.sh (show a + 1 < M4.sz by omega), o4.1, g3.sh (show a + 1 < M2.sz by omega), o2.1]; exact t1
  · rw [o9.1]; exact t8
  · rw [it9 (a + 1) (by omega), g7.it (show a + 1 < M4.sz by omega), (o4.2.2.2 (a + 1) (by omega) j).1, g3.it (show a + 1 < M2.sz by omega), (o2.2.2.2 (a + 1) (by omega) j).1, i1]
    rfl
  · rw [← hM9, sr_rf, if_pos ⟨rfl, rfl⟩]
  · rw [← hM9, sr_rf, if_neg (by simp), (o8.2.2.2 (a + 2) (by omega) 1).2.2, g7.rf (show a + 2 < M4.sz by omega), (o4.2.2.2 (a + 2) (by omega) 1).2.2, r3]
  · have f93 : ∀ j, M9.rf (a + 3) j = M8.rf (a + 3) j := fun j => (o9.2.2.2 (a + 3) (by omega) j).2.2
    have i93 : ∀ j, M9.it (a + 3) j = M8.it (a + 3) j := fun j => (o9.2.2.2 (a + 3) (by omega) j).1
    refine ⟨⟨by rw [o9.1]; exact s8, by rw [f93]; exact n3, by rw [f93]; exact n4, by rw [o9.1, o8.1]; exact s74, by rw [o9.1, o8.1]; exact s75⟩, by rw [i93]; exact n0, by rw [i93]; exact n1, by rw [i93]; exact n2, fun e he => ⟨?_, Nat.zero_le _⟩, fun i v hv => by simp [r00] at hv, by decide, by decide, by decide, by decide⟩
    show M9.it (a + 4) e = nI 0
    rw [it9 (a + 4) (by omega), i74]
    rfl
  · rw [o9.2.1, o8.2.1, z7]; omega
  · rw [o9.2.2.1, o8.2.2.1, l7]
  · exact ((g4.trans g7 (fun x hx => by have : x < M.sz := hx.1; show x < M4.sz; omega)).trans (o8.ag (R := fun y => y ≠ a + 3) (fun x hx hP => hx hP)) (fun x hx => by have : x < M.sz := hx.1; omega)).trans (o9.ag (R := fun y => y ≠ a + 2) (fun x hx hP => hx hP)) (fun x hx => by have : x < M.sz := hx.1; omega)
