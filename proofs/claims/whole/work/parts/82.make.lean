/-! making a chunk -/
theorem ush_N (x c : Int32) (s : Nat) (hs : s < 32) (hc : c.toUInt32 &&& Int32.toUInt32 31 = UInt32.ofNat s) : ((x.toUInt32 >>> (c.toUInt32 &&& Int32.toUInt32 31)).toInt32).toBitVec.toNat = x.toBitVec.toNat / 2 ^ s := by
  rw [hc]
  show (x.toUInt32 >>> UInt32.ofNat s).toNat = _
  rw [UInt32.toNat_shiftRight, Nat.shiftRight_eq_div_pow]
  congr 2
  show s % 2 ^ 32 % 32 = s
  omega
/-- byte s / 8 of an int -/
def byI (x : Int32) (s : Nat) : Nat := x.toBitVec.toNat / 2 ^ s % 256
theorem byI_lt (x : Int32) (s : Nat) : byI x s < 256 := Nat.mod_lt _ (by omega)
theorem by_0 (x : Int32) : x &&& 255 = nI (byI x 0) := by
  rw [pk_and x 8 (by decide)]
  unfold byI
  rw [Nat.pow_zero, Nat.div_one]
theorem by_8 (x : Int32) : (x.toUInt32 >>> ((8 : Int32).toUInt32 &&& Int32.toUInt32 31)).toInt32 &&& 255 = nI (byI x 8) := by
  rw [pk_and _ 8 (by decide), ush_N x 8 8 (by omega) (by decide)]
  rfl
theorem by_16 (x : Int32) : (x.toUInt32 >>> ((16 : Int32).toUInt32 &&& Int32.toUInt32 31)).toInt32 &&& 255 = nI (byI x 16) := by
  rw [pk_and _ 8 (by decide), ush_N x 16 16 (by omega) (by decide)]
  rfl
theorem by_24 (x : Int32) : ((x.toUInt32 >>> ((16 : Int32).toUInt32 &&& Int32.toUInt32 31)).toInt32.toUInt32 >>> ((8 : Int32).toUInt32 &&& Int32.toUInt32 31)).toInt32 &&& 255 = nI (byI x 24) := by
  rw [pk_and _ 8 (by decide), ush_N _ 8 8 (by omega) (by decide), ush_N x 16 16 (by omega) (by decide), Nat.div_div_eq_div_mul]
  rfl
theorem nI_bv {n : Nat} (h : n < 4294967296) : (nI n).toBitVec.toNat = n := Nat.mod_eq_of_lt h
theorem byI_n {n : Nat} (h : n < 4294967296) (s : Nat) : byI (nI n) s = n / 2 ^ s % 256 := by unfold byI; rw [nI_bv h]
theorem k17 {d : Nat} {M : Mm} {k : mQ} {a p q : Nat} {r : RecT} (h : La M a p) (hr : ReC M q r) (n0 : a ≠ q) (n1 : p ≠ q) (n2 : p ≠ q + 1) (n3 : p ≠ q + 2) (m1 : a ≠ q + 1) (m2 : a ≠ q + 2) (hk : ∀ M', LaC M' a p r.2.2.2.1 none → On [a, p] M M' → k none M') : XC (d + 2) 17 [.inr (some a), .inr (some q)] M k := by
  have hne := h.ne
  have lop : ∀ (m i : Nat) (M1 : Mm), i + m = 8 → La M1 a p → ReC M1 q r → (∀ e, e < i → M1.it p e = nI (r.2.2.2.1 e)) → On [a, p] M M1 → X (d + 1) 17 2 [some (.inr (some a)), some (.inr (some q)), some (.inl (nI i))] [] M1 k := by
    intro m
    induction m with
    | zero =>
      intro i M1 hi hL hR hp o
      have e : i = 8 := by omega
      subst e
      refine vc_X 30 _ _ _ _ _ _ _ ?_
      simp only [↓v17_0, ↓v17_1, ↓v17_2, ↓v17_3, ↓v17_5, ↓v17_8, ↓v17_9, ↓v17_12, ↓v17_13, ↓v17_14, ↓v17_15, ↓v17_18, ↓v17_19, ↓v17_22, ↓v17_25, ↓v17_26, ↓v17_27, ↓v17_30, ↓qI_c, ↓qL_c, ↓qR_c, ↓pA_o, ↓qC_i, ↓qC_r, ↓oA_s, ↓gI_0, ↓gI_1, ↓gI_2, ↓gI_3, ↓gI_4, ↓gI_5, ↓gI_6, ↓gI_7, ↓gI_8, ↓gI_9, ↓gI_10, ↓gR_0, ↓gR_1, ↓gR_2, ↓gR_3, ↓gR_4, ↓gR_5, ↓gR_6, ↓gR_7, ↓gR_8, ↓gR_9, ↓gR_10, ↓sL_0, ↓sL_1, ↓sL_2, ↓sL_3, ↓sL_4, ↓sL_5, ↓sL_6, ↓sL_7, ↓sL_8, ↓sL_9, ↓sL_10, ↓rrf_si, ↓rrf_sg, ↓shO_si, ↓shO_sg, ↓shO_sr, ↓shA_si, ↓shA_sg, ↓shA_sr, ↓pAs_0, ↓pAs_i, ↓pAs_r, stk_n, stk_i, stk_l, stk_r, List.nil_append, List.cons_append, true_and, and_true, true_or, or_true, Nat.zero_add, dp_s, Nat.reduceAdd, le8_0, le8_1, le8_2, le8_3, le8_4, le8_5, le8_6, le8_7, le8_8, Classical.not_not, aT40, aT41, aT42, aT44, aT54, aT58, aT59, rT54, rT58, rT59, reduceIte, Nat.reduceEqDiff, qn_42, qn_44, true_implies, not_true_eq_false, not_false_eq_true, false_implies, le_T, T_8, nT (show 8 < 2147483648 by omega), ↓shO_of hL.1]
      refine ⟨fun _ => ?_, fun c => absurd (by decide) c⟩
      have o2 : On [a, p] M (M1.si a 1 (-1)) := o.put (by simp)
      refine hk _ ⟨h.keep o2, fun e he => ?_, ?_, fun e he => by cases he⟩ o2
      · rw [si_it, if_neg (fun q => hne q.1.symm)]
        exact ⟨hp e he, (hR.2.2.2.2.1 e he).2⟩
      · rw [si_it, if_pos ⟨rfl, rfl⟩]
        rfl
    | succ m ih =>
      intro i M1 hi hL hR hp o
      obtain ⟨c1, c2, c3⟩ := id hL
      refine vc_X 30 _ _ _ _ _ _ _ ?_
      simp only [↓v17_0, ↓v17_1, ↓v17_2, ↓v17_3, ↓v17_5, ↓v17_8, ↓v17_9, ↓v17_12, ↓v17_13, ↓v17_14, ↓v17_15, ↓v17_18, ↓v17_19, ↓v17_22, ↓v17_25, ↓v17_26, ↓v17_27, ↓v17_30, ↓qI_c, ↓qL_c, ↓qR_c, ↓pA_o, ↓qC_i, ↓qC_r, ↓oA_s, ↓gI_0, ↓gI_1, ↓gI_2, ↓gI_3, ↓gI_4, ↓gI_5, ↓gI_6, ↓gI_7, ↓gI_8, ↓gI_9, ↓gI_10, ↓gR_0, ↓gR_1, ↓gR_2, ↓gR_3, ↓gR_4, ↓gR_5, ↓gR_6, ↓gR_7, ↓gR_8, ↓gR_9, ↓gR_10, ↓sL_0, ↓sL_1, ↓sL_2, ↓sL_3, ↓sL_4, ↓sL_5, ↓sL_6, ↓sL_7, ↓sL_8, ↓sL_9, ↓sL_10, ↓rrf_si, ↓rrf_sg, ↓shO_si, ↓shO_sg, ↓shO_sr, ↓shA_si, ↓shA_sg, ↓shA_sr, ↓pAs_0, ↓pAs_i, ↓pAs_r, stk_n, stk_i, stk_l, stk_r, List.nil_append, List.cons_append, true_and, and_true, true_or, or_true, Nat.zero_add, dp_s, Nat.reduceAdd, le8_0, le8_1, le8_2, le8_3, le8_4, le8_5, le8_6, le8_7, le8_8, Classical.not_not, aT40, aT41, aT42, aT44, aT54, aT58, aT59, rT54, rT58, rT59, reduceIte, Nat.reduceEqDiff, qn_42, qn_44, true_implies, not_true_eq_false, not_false_eq_true, false_implies, le_T, T_8, nT (show i < 2147483648 by omega), ↓shO_of c1, ↓rrf_of c2, ↓shO_of hR.1.1]
      refine ⟨fun c => by omega, fun _ => k18 hR (by omega) ⟨_, rfl, ?_⟩⟩
      refine vc_X 30 _ _ _ _ _ _ _ ?_
      simp only [↓v17_0, ↓v17_1, ↓v17_2, ↓v17_3, ↓v17_5, ↓v17_8, ↓v17_9, ↓v17_12, ↓v17_13, ↓v17_14, ↓v17_15, ↓v17_18, ↓v17_19, ↓v17_22, ↓v17_25, ↓v17_26, ↓v17_27, ↓v17_30, ↓qI_c, ↓qL_c, ↓qR_c, ↓pA_o, ↓qC_i, ↓qC_r, ↓oA_s, ↓gI_0, ↓gI_1, ↓gI_2, ↓gI_3, ↓gI_4, ↓gI_5, ↓gI_6, ↓gI_7, ↓gI_8, ↓gI_9, ↓gI_10, ↓gR_0, ↓gR_1, ↓gR_2, ↓gR_3, ↓gR_4, ↓gR_5, ↓gR_6, ↓gR_7, ↓gR_8, ↓gR_9, ↓gR_10, ↓sL_0, ↓sL_1, ↓sL_2, ↓sL_3, ↓sL_4, ↓sL_5, ↓sL_6, ↓sL_7, ↓sL_8, ↓sL_9, ↓sL_10, ↓rrf_si, ↓rrf_sg, ↓shO_si, ↓shO_sg, ↓shO_sr, ↓shA_si, ↓shA_sg, ↓shA_sr, ↓pAs_0, ↓pAs_i, ↓pAs_r, stk_n, stk_i, stk_l, stk_r, List.nil_append, List.cons_append, true_and, and_true, true_or, or_true, Nat.zero_add, dp_s, Nat.reduceAdd, le8_0, le8_1, le8_2, le8_3, le8_4, le8_5, le8_6, le8_7, le8_8, Classical.not_not, aT40, aT41, aT42, aT44, aT54, aT58, aT59, rT54, rT58, rT59, reduceIte, Nat.reduceEqDiff, qn_42, qn_44, true_implies, not_true_eq_false, not_false_eq_true, false_implies, ↓shA_of c3, nC (show i < 2147483648 by omega), nI_1]
      refine ⟨inB_n (by omega) (by omega), ?_⟩
      have o2 : On [p] M1 (M1.si p i (nI (r.2.2.2.1 i))) := On.rf_.put (by simp)
      refine ih (i + 1) _ (by omega) (hL.keep o2) (hR.keep o2 (by simp [Ne.symm n1]) (by simp [Ne.symm n2]) (by simp [Ne.symm n3])) (fun e he => ?_) (o.put (by simp))
      rw [si_it]
      by_cases hei : e = i
      · rw [if_pos ⟨rfl, hei⟩, hei]
      · rw [if_neg (fun q => hei q.2)]
        exact hp e (by omega)
  refine xc ?_
  show X (d + 1) 17 0 [some (.inr (some a)), some (.inr (some q)), none] [] M k
  refine vc_X 30 _ _ _ _ _ _ _ ?_
  simp only [↓v17_0, ↓v17_1, ↓v17_2, ↓v17_3, ↓v17_5, ↓v17_8, ↓v17_9, ↓v17_12, ↓v17_13, ↓v17_14, ↓v17_15, ↓v17_18, ↓v17_19, ↓v17_22, ↓v17_25, ↓v17_26, ↓v17_27, ↓v17_30, ↓qI_c, ↓qL_c, ↓qR_c, ↓pA_o, ↓qC_i, ↓qC_r, ↓oA_s, ↓gI_0, ↓gI_1, ↓gI_2, ↓gI_3, ↓gI_4, ↓gI_5, ↓gI_6, ↓gI_7, ↓gI_8, ↓gI_9, ↓gI_10, ↓gR_0, ↓gR_1, ↓gR_2, ↓gR_3, ↓gR_4, ↓gR_5, ↓gR_6, ↓gR_7, ↓gR_8, ↓gR_9, ↓gR_10, ↓sL_0, ↓sL_1, ↓sL_2, ↓sL_3, ↓sL_4, ↓sL_5, ↓sL_6, ↓sL_7, ↓sL_8, ↓sL_9, ↓sL_10, ↓rrf_si, ↓rrf_sg, ↓shO_si, ↓shO_sg, ↓shO_sr, ↓shA_si, ↓shA_sg, ↓shA_sr, ↓pAs_0, ↓pAs_i, ↓pAs_r, stk_n, stk_i, stk_l, stk_r, List.nil_append, List.cons_append, true_and, and_true, true_or, or_true, Nat.zero_add, dp_s, Nat.reduceAdd, le8_0, le8_1, le8_2, le8_3, le8_4, le8_5, le8_6, le8_7, le8_8, Classical.not_not, aT40, aT41, aT42, aT44, aT54, aT58, aT59, rT54, rT58, rT59, reduceIte, Nat.reduceEqDiff, qn_42, qn_44, true_implies, not_true_eq_false, not_false_eq_true, false_implies]
  exact lop 8 0 M (by omega) h hr (fun e he => by omega) On.rf_
/-- a whole chunk -/
def chL (kind key : Nat) (ct : List Nat) (st : Nat) : List Nat := [165, kind, key, ct.length, st / 256 % 256, st % 256] ++ ct ++ [st / 256 % 256, st % 256]
theorem chL_len (kind key : Nat) (ct : List Nat) (st : Nat) : (chL kind key ct st).length = ct.length + 8 := by simp [chL]
theorem chL_lt {kind key : Nat} {ct : List Nat} {st : Nat} (h1 : kind < 256) (h2 : key < 256) (h3 : ∀ v ∈ ct, v < 256) (h4 : ct.length < 256) : ∀ v ∈ chL kind key ct st, v < 256 := by
  intro v hv
  simp only [chL, List.mem_append, List.mem_cons, List.not_mem_nil, or_false] at hv
  rcases hv with ((h | h | h | h | h | h) | h) | h | h
  all_goals first
    | exact h3 v h
    | omega
theorem ands {l : List Nat} (h : ∀ v ∈ l, v < 256) : (l.map nI).map (· &&& 255) = l.map nI := by
  rw [List.map_map]
  refine List.map_congr_left (fun v hv => ?_)
  exact a255 (h v hv)
theorem k53 {d : Nat} {M : Mm} {k : mQ} {b kind key st : Nat} {ct : List Nat} (h : CpB M b) (hb : BC M (b + 271) (b + 272) 255 (ct.map nI)) (hs : M.it b 16 = nI st) (hst : st < 1000000) (h1 : kind < 256) (h2 : key < 256) (h3 : ∀ v ∈ ct, v < 256) (hk : ∀ M', BC M' (b + 273) (b + 274) 263 ((chL kind key ct st).map nI) → On [b + 273, b + 274] M M' → k none M') : XC (d + 3) 53 [.inr (some b), .inl (nI kind), .inl (nI key)] M k := by
  obtain ⟨⟨a0, a1, a2, a3, a4, a5, a6⟩, ⟨c1, c2, c3, c4, c5, c6, c7, c8⟩, e1, f1, f2, f3, f4⟩ := h
  have hl := hb.2.2.1
  rw [List.length_map] at hl
  refine xc ?_
  show X (d + 2) 53 0 [some (.inr (some b)), some (.inl (nI kind)), some (.inl (nI key))] [] M k
  refine vc_X 30 _ _ _ _ _ _ _ ?_
  simp only [↓v53_0, ↓v53_1, ↓v53_4, ↓v53_7, ↓v53_8, ↓v53_11, ↓v53_14, ↓v53_17, ↓v53_18, ↓v53_21, ↓v53_22, ↓v53_25, ↓v53_26, ↓v53_29, ↓v53_30, ↓v53_33, ↓v53_34, ↓v53_37, ↓v53_38, ↓v53_41, ↓v53_44, ↓v53_47, ↓v53_48, ↓v53_51, ↓v53_52, ↓v53_55, ↓v53_58, ↓v53_59, ↓v53_62, ↓v53_63, ↓v53_66, ↓v53_67, ↓v53_70, ↓v53_73, ↓v53_76, ↓v53_77, ↓v53_80, ↓v53_81, ↓v53_84, ↓v53_87, ↓qI_c, ↓qL_c, ↓qR_c, ↓pA_o, ↓qC_i, ↓qC_r, ↓oA_s, ↓gI_0, ↓gI_1, ↓gI_2, ↓gI_3, ↓gI_4, ↓gI_5, ↓gI_6, ↓gI_7, ↓gI_8, ↓gI_9, ↓gI_10, ↓gR_0, ↓gR_1, ↓gR_2, ↓gR_3, ↓gR_4, ↓gR_5, ↓gR_6, ↓gR_7, ↓gR_8, ↓gR_9, ↓gR_10, ↓sL_0, ↓sL_1, ↓sL_2, ↓sL_3, ↓sL_4, ↓sL_5, ↓sL_6, ↓sL_7, ↓sL_8, ↓sL_9, ↓sL_10, ↓rrf_si, ↓rrf_sg, ↓shO_si, ↓shO_sg, ↓shO_sr, ↓shA_si, ↓shA_sg, ↓shA_sr, ↓pAs_0, ↓pAs_i, ↓pAs_r, stk_n, stk_i, stk_l, stk_r, List.nil_append, List.cons_append, true_and, and_true, true_or, or_true, Nat.zero_add, dp_s, Nat.reduceAdd, le8_0, le8_1, le8_2, le8_3, le8_4, le8_5, le8_6, le8_7, le8_8, Classical.not_not, aT40, aT41, aT42, aT44, aT54, aT58, aT59, rT54, rT58, rT59, reduceIte, Nat.reduceEqDiff, qn_42, qn_44, true_implies, not_true_eq_false, not_false_eq_true, false_implies, ↓shO_of a0, ↓rrf_of c4, ↓shO_of f3.1]
  refine k32 f3 (fun M0 b0 o0 => ⟨rfl, ?_⟩)
  have fA : ∀ M', On [b + 273, b + 274] M M' → M'.sh b = some (0, 0) ∧ M'.rf b 9 = some (b + 273) ∧ M'.rf b 8 = some (b + 271) ∧ M'.it b 16 = nI st ∧ BC M' (b + 271) (b + 272) 255 (ct.map nI) := fun M' o => ⟨by rw [o.1]; exact a0, by rw [o.2.2.2.2.1]; exact c4, by rw [o.2.2.2.2.1]; exact c3, by rw [o.2.2.2.2.2 b (by simp)]; exact hs, hb.keep o (by simp) (by simp)⟩
  have q0 : On [b + 273, b + 274] M M0 := o0.mono (by simp)
  obtain ⟨x1, x2, x3, x4, x5⟩ := fA M0 q0
  refine vc_X 30 _ _ _ _ _ _ _ ?_
  simp only [↓v53_0, ↓v53_1, ↓v53_4, ↓v53_7, ↓v53_8, ↓v53_11, ↓v53_14, ↓v53_17, ↓v53_18, ↓v53_21, ↓v53_22, ↓v53_25, ↓v53_26, ↓v53_29, ↓v53_30, ↓v53_33, ↓v53_34, ↓v53_37, ↓v53_38, ↓v53_41, ↓v53_44, ↓v53_47, ↓v53_48, ↓v53_51, ↓v53_52, ↓v53_55, ↓v53_58, ↓v53_59, ↓v53_62, ↓v53_63, ↓v53_66, ↓v53_67, ↓v53_70, ↓v53_73, ↓v53_76, ↓v53_77, ↓v53_80, ↓v53_81, ↓v53_84, ↓v53_87, ↓qI_c, ↓qL_c, ↓qR_c, ↓pA_o, ↓qC_i, ↓qC_r, ↓oA_s, ↓gI_0, ↓gI_1, ↓gI_2, ↓gI_3, ↓gI_4, ↓gI_5, ↓gI_6, ↓gI_7, ↓gI_8, ↓gI_9, ↓gI_10, ↓gR_0, ↓gR_1, ↓gR_2, ↓gR_3, ↓gR_4, ↓gR_5, ↓gR_6, ↓gR_7, ↓gR_8, ↓gR_9, ↓gR_10, ↓sL_0, ↓sL_1, ↓sL_2, ↓sL_3, ↓sL_4, ↓sL_5, ↓sL_6, ↓sL_7, ↓sL_8, ↓sL_9, ↓sL_10, ↓rrf_si, ↓rrf_sg, ↓shO_si, ↓shO_sg, ↓shO_sr, ↓shA_si, ↓shA_sg, ↓shA_sr, ↓pAs_0, ↓pAs_i, ↓pAs_r, stk_n, stk_i, stk_l, stk_r, List.nil_append, List.cons_append, true_and, and_true, true_or, or_true, Nat.zero_add, dp_s, Nat.reduceAdd, le8_0, le8_1, le8_2, le8_3, le8_4, le8_5, le8_6, le8_7, le8_8, Classical.not_not, aT40, aT41, aT42, aT44, aT54, aT58, aT59, rT54, rT58, rT59, reduceIte, Nat.reduceEqDiff, qn_42, qn_44, true_implies, not_true_eq_false, not_false_eq_true, false_implies, ↓shO_of x1, ↓rrf_of x2, ↓shO_of b0.1.1]
  refine k33 b0 (by simp) (fun M1 b1 o1 => ⟨rfl, ?_⟩)
  have q1 := q0.trans o1 (fun _ x => x)
  obtain ⟨x1, x2, x3, x4, x5⟩ := fA M1 q1
  refine vc_X 30 _ _ _ _ _ _ _ ?_
  simp only [↓v53_0, ↓v53_1, ↓v53_4, ↓v53_7, ↓v53_8, ↓v53_11, ↓v53_14, ↓v53_17, ↓v53_18, ↓v53_21, ↓v53_22, ↓v53_25, ↓v53_26, ↓v53_29, ↓v53_30, ↓v53_33, ↓v53_34, ↓v53_37, ↓v53_38, ↓v53_41, ↓v53_44, ↓v53_47, ↓v53_48, ↓v53_51, ↓v53_52, ↓v53_55, ↓v53_58, ↓v53_59, ↓v53_62, ↓v53_63, ↓v53_66, ↓v53_67, ↓v53_70, ↓v53_73, ↓v53_76, ↓v53_77, ↓v53_80, ↓v53_81, ↓v53_84, ↓v53_87, ↓qI_c, ↓qL_c, ↓qR_c, ↓pA_o, ↓qC_i, ↓qC_r, ↓oA_s, ↓gI_0, ↓gI_1, ↓gI_2, ↓gI_3, ↓gI_4, ↓gI_5, ↓gI_6, ↓gI_7, ↓gI_8, ↓gI_9, ↓gI_10, ↓gR_0, ↓gR_1, ↓gR_2, ↓gR_3, ↓gR_4, ↓gR_5, ↓gR_6, ↓gR_7, ↓gR_8, ↓gR_9, ↓gR_10, ↓sL_0, ↓sL_1, ↓sL_2, ↓sL_3, ↓sL_4, ↓sL_5, ↓sL_6, ↓sL_7, ↓sL_8, ↓sL_9, ↓sL_10, ↓rrf_si, ↓rrf_sg, ↓shO_si, ↓shO_sg, ↓shO_sr, ↓shA_si, ↓shA_sg, ↓shA_sr, ↓pAs_0, ↓pAs_i, ↓pAs_r, stk_n, stk_i, stk_l, stk_r, List.nil_append, List.cons_append, true_and, and_true, true_or, or_true, Nat.zero_add, dp_s, Nat.reduceAdd, le8_0, le8_1, le8_2, le8_3, le8_4, le8_5, le8_6, le8_7, le8_8, Classical.not_not, aT40, aT41, aT42, aT44, aT54, aT58, aT59, rT54, rT58, rT59, reduceIte, Nat.reduceEqDiff, qn_42, qn_44, true_implies, not_true_eq_false, not_false_eq_true, false_implies, ↓shO_of x1, ↓rrf_of x2, ↓shO_of b1.1.1]
  refine k33 b1 (by simp) (fun M2 b2 o2 => ⟨rfl, ?_⟩)
  have q2 := q1.trans o2 (fun _ x => x)
  obtain ⟨x1, x2, x3, x4, x5⟩ := fA M2 q2
  refine vc_X 30 _ _ _ _ _ _ _ ?_
  simp only [↓v53_0, ↓v53_1, ↓v53_4, ↓v53_7, ↓v53_8, ↓v53_11, ↓v53_14, ↓v53_17, ↓v53_18, ↓v53_21, ↓v53_22, ↓v53_25, ↓v53_26, ↓v53_29, ↓v53_30, ↓v53_33, ↓v53_34, ↓v53_37, ↓v53_38, ↓v53_41, ↓v53_44, ↓v53_47, ↓v53_48, ↓v53_51, ↓v53_52, ↓v53_55, ↓v53_58, ↓v53_59, ↓v53_62, ↓v53_63, ↓v53_66, ↓v53_67, ↓v53_70, ↓v53_73, ↓v53_76, ↓v53_77, ↓v53_80, ↓v53_81, ↓v53_84, ↓v53_87, ↓qI_c, ↓qL_c, ↓qR_c, ↓pA_o, ↓qC_i, ↓qC_r, ↓oA_s, ↓gI_0, ↓gI_1, ↓gI_2, ↓gI_3, ↓gI_4, ↓gI_5, ↓gI_6, ↓gI_7, ↓gI_8, ↓gI_9, ↓gI_10, ↓gR_0, ↓gR_1, ↓gR_2, ↓gR_3, ↓gR_4, ↓gR_5, ↓gR_6, ↓gR_7, ↓gR_8, ↓gR_9, ↓gR_10, ↓sL_0, ↓sL_1, ↓sL_2, ↓sL_3, ↓sL_4, ↓sL_5, ↓sL_6, ↓sL_7, ↓sL_8, ↓sL_9, ↓sL_10, ↓rrf_si, ↓rrf_sg, ↓shO_si, ↓shO_sg, ↓shO_sr, ↓shA_si, ↓shA_sg, ↓shA_sr, ↓pAs_0, ↓pAs_i, ↓pAs_r, stk_n, stk_i, stk_l, stk_r, List.nil_append, List.cons_append, true_and, and_true, true_or, or_true, Nat.zero_add, dp_s, Nat.reduceAdd, le8_0, le8_1, le8_2, le8_3, le8_4, le8_5, le8_6, le8_7, le8_8, Classical.not_not, aT40, aT41, aT42, aT44, aT54, aT58, aT59, rT54, rT58, rT59, reduceIte, Nat.reduceEqDiff, qn_42, qn_44, true_implies, not_true_eq_false, not_false_eq_true, false_implies, ↓shO_of x1, ↓rrf_of x2, ↓shO_of b2.1.1]
  refine k33 b2 (by simp) (fun M3 b3 o3 => ⟨rfl, ?_⟩)
  have q3 := q2.trans o3 (fun _ x => x)
  obtain ⟨x1, x2, x3, x4, x5⟩ := fA M3 q3
  have x6 : M3.it (b + 271) 1 = nI ct.length := by rw [x5.2.1, List.length_map]
  refine vc_X 30 _ _ _ _ _ _ _ ?_
  simp only [↓v53_0, ↓v53_1, ↓v53_4, ↓v53_7, ↓v53_8, ↓v53_11, ↓v53_14, ↓v53_17, ↓v53_18, ↓v53_21, ↓v53_22, ↓v53_25, ↓v53_26, ↓v53_29, ↓v53_30, ↓v53_33, ↓v53_34, ↓v53_37, ↓v53_38, ↓v53_41, ↓v53_44, ↓v53_47, ↓v53_48, ↓v53_51, ↓v53_52, ↓v53_55, ↓v53_58, ↓v53_59, ↓v53_62, ↓v53_63, ↓v53_66, ↓v53_67, ↓v53_70, ↓v53_73, ↓v53_76, ↓v53_77, ↓v53_80, ↓v53_81, ↓v53_84, ↓v53_87, ↓qI_c, ↓qL_c, ↓qR_c, ↓pA_o, ↓qC_i, ↓qC_r, ↓oA_s, ↓gI_0, ↓gI_1, ↓gI_2, ↓gI_3, ↓gI_4, ↓gI_5, ↓gI_6, ↓gI_7, ↓gI_8, ↓gI_9, ↓gI_10, ↓gR_0, ↓gR_1, ↓gR_2, ↓gR_3, ↓gR_4, ↓gR_5, ↓gR_6, ↓gR_7, ↓gR_8, ↓gR_9, ↓gR_10, ↓sL_0, ↓sL_1, ↓sL_2, ↓sL_3, ↓sL_4, ↓sL_5, ↓sL_6, ↓sL_7, ↓sL_8, ↓sL_9, ↓sL_10, ↓rrf_si, ↓rrf_sg, ↓shO_si, ↓shO_sg, ↓shO_sr, ↓shA_si, ↓shA_sg, ↓shA_sr, ↓pAs_0, ↓pAs_i, ↓pAs_r, stk_n, stk_i, stk_l, stk_r, List.nil_append, List.cons_append, true_and, and_true, true_or, or_true, Nat.zero_add, dp_s, Nat.reduceAdd, le8_0, le8_1, le8_2, le8_3, le8_4, le8_5, le8_6, le8_7, le8_8, Classical.not_not, aT40, aT41, aT42, aT44, aT54, aT58, aT59, rT54, rT58, rT59, reduceIte, Nat.reduceEqDiff, qn_42, qn_44, true_implies, not_true_eq_false, not_false_eq_true, false_implies, ↓shO_of x1, ↓rrf_of x2, ↓rrf_of x3, ↓shO_of x5.1.1, x6, ↓shO_of b3.1.1]
  refine k33 b3 (by simp) (fun M4 b4 o4 => ⟨rfl, ?_⟩)
  have q4 := q3.trans o4 (fun _ x => x)
  obtain ⟨x1, x2, x3, x4, x5⟩ := fA M4 q4
  refine vc_X 30 _ _ _ _ _ _ _ ?_
  simp only [↓v53_0, ↓v53_1, ↓v53_4, ↓v53_7, ↓v53_8, ↓v53_11, ↓v53_14, ↓v53_17, ↓v53_18, ↓v53_21, ↓v53_22, ↓v53_25, ↓v53_26, ↓v53_29, ↓v53_30, ↓v53_33, ↓v53_34, ↓v53_37, ↓v53_38, ↓v53_41, ↓v53_44, ↓v53_47, ↓v53_48, ↓v53_51, ↓v53_52, ↓v53_55, ↓v53_58, ↓v53_59, ↓v53_62, ↓v53_63, ↓v53_66, ↓v53_67, ↓v53_70, ↓v53_73, ↓v53_76, ↓v53_77, ↓v53_80, ↓v53_81, ↓v53_84, ↓v53_87, ↓qI_c, ↓qL_c, ↓qR_c, ↓pA_o, ↓qC_i, ↓qC_r, ↓oA_s, ↓gI_0, ↓gI_1, ↓gI_2, ↓gI_3, ↓gI_4, ↓gI_5, ↓gI_6, ↓gI_7, ↓gI_8, ↓gI_9, ↓gI_10, ↓gR_0, ↓gR_1, ↓gR_2, ↓gR_3, ↓gR_4, ↓gR_5, ↓gR_6, ↓gR_7, ↓gR_8, ↓gR_9, ↓gR_10, ↓sL_0, ↓sL_1, ↓sL_2, ↓sL_3, ↓sL_4, ↓sL_5, ↓sL_6, ↓sL_7, ↓sL_8, ↓sL_9, ↓sL_10, ↓rrf_si, ↓rrf_sg, ↓shO_si, ↓shO_sg, ↓shO_sr, ↓shA_si, ↓shA_sg, ↓shA_sr, ↓pAs_0, ↓pAs_i, ↓pAs_r, stk_n, stk_i, stk_l, stk_r, List.nil_append, List.cons_append, true_and, and_true, true_or, or_true, Nat.zero_add, dp_s, Nat.reduceAdd, le8_0, le8_1, le8_2, le8_3, le8_4, le8_5, le8_6, le8_7, le8_8, Classical.not_not, aT40, aT41, aT42, aT44, aT54, aT58, aT59, rT54, rT58, rT59, reduceIte, Nat.reduceEqDiff, qn_42, qn_44, true_implies, not_true_eq_false, not_false_eq_true, false_implies, ↓shO_of x1, ↓rrf_of x2, x4, ↓shO_of b4.1.1]
  refine k43 b4 (by simp) (fun M5 b5 o5 => ⟨rfl, ?_⟩)
  have q5 := q4.trans o5 (fun _ x => x)
  obtain ⟨x1, x2, x3, x4, x5⟩ := fA M5 q5
  have x6 : M5.it (b + 271) 1 = nI ct.length := by rw [x5.2.1, List.length_map]
  refine vc_X 30 _ _ _ _ _ _ _ ?_
  simp only [↓v53_0, ↓v53_1, ↓v53_4, ↓v53_7, ↓v53_8, ↓v53_11, ↓v53_14, ↓v53_17, ↓v53_18, ↓v53_21, ↓v53_22, ↓v53_25, ↓v53_26, ↓v53_29, ↓v53_30, ↓v53_33, ↓v53_34, ↓v53_37, ↓v53_38, ↓v53_41, ↓v53_44, ↓v53_47, ↓v53_48, ↓v53_51, ↓v53_52, ↓v53_55, ↓v53_58, ↓v53_59, ↓v53_62, ↓v53_63, ↓v53_66, ↓v53_67, ↓v53_70, ↓v53_73, ↓v53_76, ↓v53_77, ↓v53_80, ↓v53_81, ↓v53_84, ↓v53_87, ↓qI_c, ↓qL_c, ↓qR_c, ↓pA_o, ↓qC_i, ↓qC_r, ↓oA_s, ↓gI_0, ↓gI_1, ↓gI_2, ↓gI_3, ↓gI_4, ↓gI_5, ↓gI_6, ↓gI_7, ↓gI_8, ↓gI_9, ↓gI_10, ↓gR_0, ↓gR_1, ↓gR_2, ↓gR_3, ↓gR_4, ↓gR_5, ↓gR_6, ↓gR_7, ↓gR_8, ↓gR_9, ↓gR_10, ↓sL_0, ↓sL_1, ↓sL_2, ↓sL_3, ↓sL_4, ↓sL_5, ↓sL_6, ↓sL_7, ↓sL_8, ↓sL_9, ↓sL_10, ↓rrf_si, ↓rrf_sg, ↓shO_si, ↓shO_sg, ↓shO_sr, ↓shA_si, ↓shA_sg, ↓shA_sr, ↓pAs_0, ↓pAs_i, ↓pAs_r, stk_n, stk_i, stk_l, stk_r, List.nil_append, List.cons_append, true_and, and_true, true_or, or_true, Nat.zero_add, dp_s, Nat.reduceAdd, le8_0, le8_1, le8_2, le8_3, le8_4, le8_5, le8_6, le8_7, le8_8, Classical.not_not, aT40, aT41, aT42, aT44, aT54, aT58, aT59, rT54, rT58, rT59, reduceIte, Nat.reduceEqDiff, qn_42, qn_44, true_implies, not_true_eq_false, not_false_eq_true, false_implies, ↓shO_of x1, ↓rrf_of x2, ↓rrf_of x3, ↓shO_of x5.1.1, x6, ↓shO_of b5.1.1]
  refine k45 (by omega) (by omega) (by omega) (by omega) (by omega) b5 x5 (by simp; omega) (fun M6 b6 o6 => ⟨rfl, ?_⟩)
  have q6 := q5.trans o6 (fun _ x => x)
  obtain ⟨x1, x2, x3, x4, x5⟩ := fA M6 q6
  refine vc_X 30 _ _ _ _ _ _ _ ?_
  simp only [↓v53_0, ↓v53_1, ↓v53_4, ↓v53_7, ↓v53_8, ↓v53_11, ↓v53_14, ↓v53_17, ↓v53_18, ↓v53_21, ↓v53_22, ↓v53_25, ↓v53_26, ↓v53_29, ↓v53_30, ↓v53_33, ↓v53_34, ↓v53_37, ↓v53_38, ↓v53_41, ↓v53_44, ↓v53_47, ↓v53_48, ↓v53_51, ↓v53_52, ↓v53_55, ↓v53_58, ↓v53_59, ↓v53_62, ↓v53_63, ↓v53_66, ↓v53_67, ↓v53_70, ↓v53_73, ↓v53_76, ↓v53_77, ↓v53_80, ↓v53_81, ↓v53_84, ↓v53_87, ↓qI_c, ↓qL_c, ↓qR_c, ↓pA_o, ↓qC_i, ↓qC_r, ↓oA_s, ↓gI_0, ↓gI_1, ↓gI_2, ↓gI_3, ↓gI_4, ↓gI_5, ↓gI_6, ↓gI_7, ↓gI_8, ↓gI_9, ↓gI_10, ↓gR_0, ↓gR_1, ↓gR_2, ↓gR_3, ↓gR_4, ↓gR_5, ↓gR_6, ↓gR_7, ↓gR_8, ↓gR_9, ↓gR_10, ↓sL_0, ↓sL_1, ↓sL_2, ↓sL_3, ↓sL_4, ↓sL_5, ↓sL_6, ↓sL_7, ↓sL_8, ↓sL_9, ↓sL_10, ↓rrf_si, ↓rrf_sg, ↓shO_si, ↓shO_sg, ↓shO_sr, ↓shA_si, ↓shA_sg, ↓shA_sr, ↓pAs_0, ↓pAs_i, ↓pAs_r, stk_n, stk_i, stk_l, stk_r, List.nil_append, List.cons_append, true_and, and_true, true_or, or_true, Nat.zero_add, dp_s, Nat.reduceAdd, le8_0, le8_1, le8_2, le8_3, le8_4, le8_5, le8_6, le8_7, le8_8, Classical.not_not, aT40, aT41, aT42, aT44, aT54, aT58, aT59, rT54, rT58, rT59, reduceIte, Nat.reduceEqDiff, qn_42, qn_44, true_implies, not_true_eq_false, not_false_eq_true, false_implies, ↓shO_of x1, ↓rrf_of x2, x4, ↓shO_of b6.1.1]
  refine k43 b6 (by simp; omega) (fun M7 b7 o7 => ⟨rfl, ?_⟩)
  have q7 := q6.trans o7 (fun _ x => x)
  refine vc_X 30 _ _ _ _ _ _ _ ?_
  simp only [↓v53_0, ↓v53_1, ↓v53_4, ↓v53_7, ↓v53_8, ↓v53_11, ↓v53_14, ↓v53_17, ↓v53_18, ↓v53_21, ↓v53_22, ↓v53_25, ↓v53_26, ↓v53_29, ↓v53_30, ↓v53_33, ↓v53_34, ↓v53_37, ↓v53_38, ↓v53_41, ↓v53_44, ↓v53_47, ↓v53_48, ↓v53_51, ↓v53_52, ↓v53_55, ↓v53_58, ↓v53_59, ↓v53_62, ↓v53_63, ↓v53_66, ↓v53_67, ↓v53_70, ↓v53_73, ↓v53_76, ↓v53_77, ↓v53_80, ↓v53_81, ↓v53_84, ↓v53_87, ↓qI_c, ↓qL_c, ↓qR_c, ↓pA_o, ↓qC_i, ↓qC_r, ↓oA_s, ↓gI_0, ↓gI_1, ↓gI_2, ↓gI_3, ↓gI_4, ↓gI_5, ↓gI_6, ↓gI_7, ↓gI_8, ↓gI_9, ↓gI_10, ↓gR_0, ↓gR_1, ↓gR_2, ↓gR_3, ↓gR_4, ↓gR_5, ↓gR_6, ↓gR_7, ↓gR_8, ↓gR_9, ↓gR_10, ↓sL_0, ↓sL_1, ↓sL_2, ↓sL_3, ↓sL_4, ↓sL_5, ↓sL_6, ↓sL_7, ↓sL_8, ↓sL_9, ↓sL_10, ↓rrf_si, ↓rrf_sg, ↓shO_si, ↓shO_sg, ↓shO_sr, ↓shA_si, ↓shA_sg, ↓shA_sr, ↓pAs_0, ↓pAs_i, ↓pAs_r, stk_n, stk_i, stk_l, stk_r, List.nil_append, List.cons_append, true_and, and_true, true_or, or_true, Nat.zero_add, dp_s, Nat.reduceAdd, le8_0, le8_1, le8_2, le8_3, le8_4, le8_5, le8_6, le8_7, le8_8, Classical.not_not, aT40, aT41, aT42, aT44, aT54, aT58, aT59, rT54, rT58, rT59, reduceIte, Nat.reduceEqDiff, qn_42, qn_44, true_implies, not_true_eq_false, not_false_eq_true, false_implies]
  refine hk M7 ?_ q7
  rw [show (165 : Int32) &&& 255 = nI 165 from rfl, a255 h1, a255 h2, a255 (show ct.length < 256 by omega), by_8, by_0, byI_n (by omega), byI_n (by omega), List.take_of_length_le (by simp), ands h3] at b7
  simp only [Nat.pow_zero, Nat.div_one, show (2 : Nat) ^ 8 = 256 from rfl] at b7
  simpa [chL] using b7
