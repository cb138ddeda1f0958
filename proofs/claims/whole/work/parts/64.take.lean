/-! Layout.take, copyFrom, empty -/
theorem i10 : ((1 : Int32) = 0) = False := eq_false (by decide)
theorem i00 : ((0 : Int32) = 0) = True := eq_self 0
def upn (f : Nat → Nat) (k v : Nat) : Nat → Nat := fun j => if j = k then v else f j
/-- the extent in which n blocks are taken -/
def tkE (ptr : Nat → Nat) (op : Option Nat) (n l : Nat) : Option Nat := if 16 < n then none else match op with
  | some e => if ptr e + n ≤ 16 then some e else if cnt (emE ptr op) 8 < l then none else fst_ (emE ptr op) 0 8
  | none => if cnt (emE ptr op) 8 < l then none else fst_ (emE ptr op) 0 8
theorem fst_spec (p : Nat → Bool) : ∀ m i e, fst_ p i m = some e → p e = true ∧ i ≤ e ∧ e < i + m
  | 0, i, e, h => by cases h
  | m + 1, i, e, h => by
    have h : (if p i then some i else fst_ p (i + 1) m) = some e := h
    cases hp : p i with
    | true =>
      rw [hp, if_pos rfl] at h
      cases h
      exact ⟨hp, Nat.le_refl _, by omega⟩
    | false =>
      rw [hp, if_neg (by decide)] at h
      obtain ⟨h1, h2, h3⟩ := fst_spec p m (i + 1) e h
      exact ⟨h1, by omega, by omega⟩
theorem fst_none (p : Nat → Bool) : ∀ m i, fst_ p i m = none → ∀ e, i ≤ e → e < i + m → p e = false
  | 0, i, _, e, h1, h2 => by omega
  | m + 1, i, h, e, h1, h2 => by
    have h : (if p i then some i else fst_ p (i + 1) m) = none := h
    cases hp : p i with
    | true => rw [hp, if_pos rfl] at h; cases h
    | false =>
      rw [hp, if_neg (by decide)] at h
      by_cases he : e = i
      · rw [he]; exact hp
      · exact fst_none p m (i + 1) h e (by omega) (by omega)
theorem cnt_0 (p : Nat → Bool) : ∀ n, (∀ i, i < n → p i = false) → cnt p n = 0
  | 0, _ => rfl
  | n + 1, h => by
    show cnt p n + _ = 0
    rw [cnt_0 p n (fun i hi => h i (by omega)), h n (by omega)]
    rfl
theorem t47 {d : Nat} {M : Mm} {k : mQ} {a p n l e : Nat} {ptr : Nat → Nat} (h : LaC M a p ptr (some e)) (hn : n < 1000) (hl : l < 100) (hf : ptr e + n ≤ 16) (hk : ∀ M', LaC M' a p (upn ptr e (ptr e + n)) (some e) → On [p] M M' → k (some (.inl (nI (16 * e + ptr e)))) M') :
    X (d + 3) 47 59 [some (.inr (some a)), some (.inl (nI n)), some (.inl (nI l)), none] [.inl 1] M k := by
  have hne := h.1.ne
  obtain ⟨⟨b1, b2, b3⟩, h2, h3, h4⟩ := h
  have he : e < 8 := h4 e rfl
  have h3 : M.it a 1 = nI e := h3
  refine vc_X 40 _ _ _ _ _ _ _ ?_
  simp only [↓v47_0, ↓v47_1, ↓v47_3, ↓v47_6, ↓v47_7, ↓v47_8, ↓v47_9, ↓v47_12, ↓v47_15, ↓v47_18, ↓v47_19, ↓v47_22, ↓v47_23, ↓v47_26, ↓v47_27, ↓v47_28, ↓v47_29, ↓v47_31, ↓v47_34, ↓v47_35, ↓v47_38, ↓v47_39, ↓v47_42, ↓v47_43, ↓v47_44, ↓v47_45, ↓v47_46, ↓v47_49, ↓v47_52, ↓v47_53, ↓v47_56, ↓v47_59, ↓v47_62, ↓v47_63, ↓v47_64, ↓v47_65, ↓v47_68, ↓v47_70, ↓v47_71, ↓v47_72, ↓v47_75, ↓v47_76, ↓v47_79, ↓v47_80, ↓v47_81, ↓v47_82, ↓v47_83, ↓v47_86, ↓v47_87, ↓v47_90, ↓v47_91, ↓v47_92, ↓v47_93, ↓v47_94, ↓v47_95, ↓v47_96, ↓qI_c, ↓qL_c, ↓qR_c, ↓pA_o, ↓qC_i, ↓qC_r, ↓oA_s, ↓gI_0, ↓gI_1, ↓gI_2, ↓gI_3, ↓gI_4, ↓gI_5, ↓gI_6, ↓gI_7, ↓gI_8, ↓gI_9, ↓gI_10, ↓gR_0, ↓gR_1, ↓gR_2, ↓gR_3, ↓gR_4, ↓gR_5, ↓gR_6, ↓gR_7, ↓gR_8, ↓gR_9, ↓gR_10, ↓sL_0, ↓sL_1, ↓sL_2, ↓sL_3, ↓sL_4, ↓sL_5, ↓sL_6, ↓sL_7, ↓sL_8, ↓sL_9, ↓sL_10, ↓rrf_si, ↓rrf_sg, ↓shO_si, ↓shO_sg, ↓shO_sr, ↓shA_si, ↓shA_sg, ↓shA_sr, ↓pAs_0, ↓pAs_i, ↓pAs_r, stk_n, stk_i, stk_l, stk_r, List.nil_append, List.cons_append, true_and, and_true, true_or, or_true, Nat.zero_add, dp_s, Nat.reduceAdd, le8_0, le8_1, le8_2, le8_3, le8_4, le8_5, le8_6, le8_7, le8_8, Classical.not_not, aT40, aT41, aT42, aT44, aT54, aT58, aT59, rT54, rT58, rT59, reduceIte, Nat.reduceEqDiff, qn_42, qn_44, true_implies, not_true_eq_false, not_false_eq_true, false_implies, ↓shO_of b1, ↓rrf_of b2, ↓shA_of b3, h3, nC (show e < 2147483648 by omega), (h2 e he).1, i10]
  refine ⟨inB_n he (by omega), inB_n he (by omega), inB_n he (by omega), ?_⟩
  rw [nI_add, n_16, pk_mul, nI_add, show e * 16 + ptr e = 16 * e + ptr e by omega]
  have o : On [p] M (M.si p e (nI (ptr e + n))) := On.rf_.put (by simp)
  refine hk (M.si p e (nI (ptr e + n))) ⟨⟨b1, b2, b3⟩, fun e' he' => ?_, ?_, h4⟩ o
  · rw [si_it]
    unfold upn
    by_cases hee : e' = e
    · rw [if_pos ⟨rfl, hee⟩, if_pos hee]
      exact ⟨rfl, hf⟩
    · rw [if_neg (fun q => hee q.2), if_neg hee]
      exact h2 e' he'
  · rw [si_it, if_neg (fun q => hne q.1)]
    exact h3
theorem m47 {d : Nat} {M : Mm} {k : mQ} {a p n l : Nat} {ptr : Nat → Nat} {op : Option Nat} (h : LaC M a p ptr op) (hn : n ≤ 16) (hl : 1 ≤ l ∧ l < 100) (h0 : cnt (emE ptr op) 8 < l → k (some (.inl (-1))) M)
    (h1 : ∀ e M', ¬ cnt (emE ptr op) 8 < l → fst_ (emE ptr op) 0 8 = some e → LaC M' a p (upn ptr e (ptr e + n)) (some e) → On [a, p] M M' → k (some (.inl (nI (16 * e + ptr e)))) M') :
    X (d + 3) 47 34 [some (.inr (some a)), some (.inl (nI n)), some (.inl (nI l)), none] [] M k := by
  have hne := h.1.ne
  refine vc_X 40 _ _ _ _ _ _ _ ?_
  simp only [↓v47_0, ↓v47_1, ↓v47_3, ↓v47_6, ↓v47_7, ↓v47_8, ↓v47_9, ↓v47_12, ↓v47_15, ↓v47_18, ↓v47_19, ↓v47_22, ↓v47_23, ↓v47_26, ↓v47_27, ↓v47_28, ↓v47_29, ↓v47_31, ↓v47_34, ↓v47_35, ↓v47_38, ↓v47_39, ↓v47_42, ↓v47_43, ↓v47_44, ↓v47_45, ↓v47_46, ↓v47_49, ↓v47_52, ↓v47_53, ↓v47_56, ↓v47_59, ↓v47_62, ↓v47_63, ↓v47_64, ↓v47_65, ↓v47_68, ↓v47_70, ↓v47_71, ↓v47_72, ↓v47_75, ↓v47_76, ↓v47_79, ↓v47_80, ↓v47_81, ↓v47_82, ↓v47_83, ↓v47_86, ↓v47_87, ↓v47_90, ↓v47_91, ↓v47_92, ↓v47_93, ↓v47_94, ↓v47_95, ↓v47_96, ↓qI_c, ↓qL_c, ↓qR_c, ↓pA_o, ↓qC_i, ↓qC_r, ↓oA_s, ↓gI_0, ↓gI_1, ↓gI_2, ↓gI_3, ↓gI_4, ↓gI_5, ↓gI_6, ↓gI_7, ↓gI_8, ↓gI_9, ↓gI_10, ↓gR_0, ↓gR_1, ↓gR_2, ↓gR_3, ↓gR_4, ↓gR_5, ↓gR_6, ↓gR_7, ↓gR_8, ↓gR_9, ↓gR_10, ↓sL_0, ↓sL_1, ↓sL_2, ↓sL_3, ↓sL_4, ↓sL_5, ↓sL_6, ↓sL_7, ↓sL_8, ↓sL_9, ↓sL_10, ↓rrf_si, ↓rrf_sg, ↓shO_si, ↓shO_sg, ↓shO_sr, ↓shA_si, ↓shA_sg, ↓shA_sr, ↓pAs_0, ↓pAs_i, ↓pAs_r, stk_n, stk_i, stk_l, stk_r, List.nil_append, List.cons_append, true_and, and_true, true_or, or_true, Nat.zero_add, dp_s, Nat.reduceAdd, le8_0, le8_1, le8_2, le8_3, le8_4, le8_5, le8_6, le8_7, le8_8, Classical.not_not, aT40, aT41, aT42, aT44, aT54, aT58, aT59, rT54, rT58, rT59, reduceIte, Nat.reduceEqDiff, qn_42, qn_44, true_implies, not_true_eq_false, not_false_eq_true, false_implies, ↓shO_of h.1.1]
  refine k48 h ⟨_, rfl, ?_⟩
  have hc := cnt_le (emE ptr op) 8
  refine vc_X 40 _ _ _ _ _ _ _ ?_
  simp only [↓v47_0, ↓v47_1, ↓v47_3, ↓v47_6, ↓v47_7, ↓v47_8, ↓v47_9, ↓v47_12, ↓v47_15, ↓v47_18, ↓v47_19, ↓v47_22, ↓v47_23, ↓v47_26, ↓v47_27, ↓v47_28, ↓v47_29, ↓v47_31, ↓v47_34, ↓v47_35, ↓v47_38, ↓v47_39, ↓v47_42, ↓v47_43, ↓v47_44, ↓v47_45, ↓v47_46, ↓v47_49, ↓v47_52, ↓v47_53, ↓v47_56, ↓v47_59, ↓v47_62, ↓v47_63, ↓v47_64, ↓v47_65, ↓v47_68, ↓v47_70, ↓v47_71, ↓v47_72, ↓v47_75, ↓v47_76, ↓v47_79, ↓v47_80, ↓v47_81, ↓v47_82, ↓v47_83, ↓v47_86, ↓v47_87, ↓v47_90, ↓v47_91, ↓v47_92, ↓v47_93, ↓v47_94, ↓v47_95, ↓v47_96, ↓qI_c, ↓qL_c, ↓qR_c, ↓pA_o, ↓qC_i, ↓qC_r, ↓oA_s, ↓gI_0, ↓gI_1, ↓gI_2, ↓gI_3, ↓gI_4, ↓gI_5, ↓gI_6, ↓gI_7, ↓gI_8, ↓gI_9, ↓gI_10, ↓gR_0, ↓gR_1, ↓gR_2, ↓gR_3, ↓gR_4, ↓gR_5, ↓gR_6, ↓gR_7, ↓gR_8, ↓gR_9, ↓gR_10, ↓sL_0, ↓sL_1, ↓sL_2, ↓sL_3, ↓sL_4, ↓sL_5, ↓sL_6, ↓sL_7, ↓sL_8, ↓sL_9, ↓sL_10, ↓rrf_si, ↓rrf_sg, ↓shO_si, ↓shO_sg, ↓shO_sr, ↓shA_si, ↓shA_sg, ↓shA_sr, ↓pAs_0, ↓pAs_i, ↓pAs_r, stk_n, stk_i, stk_l, stk_r, List.nil_append, List.cons_append, true_and, and_true, true_or, or_true, Nat.zero_add, dp_s, Nat.reduceAdd, le8_0, le8_1, le8_2, le8_3, le8_4, le8_5, le8_6, le8_7, le8_8, Classical.not_not, aT40, aT41, aT42, aT44, aT54, aT58, aT59, rT54, rT58, rT59, reduceIte, Nat.reduceEqDiff, qn_42, qn_44, true_implies, not_true_eq_false, not_false_eq_true, false_implies, le_T, nT (show l < 2147483648 by omega), nT (show cnt (emE ptr op) 8 < 2147483648 by omega), ↓shO_of h.1.1]
  refine ⟨fun c => ?_, fun c => h0 (by omega)⟩
  refine k50 h ⟨_, rfl, ?_⟩
  cases hf : fst_ (emE ptr op) 0 8 with
  | none =>
    exfalso
    have := cnt_0 (emE ptr op) 8 (fun i hi => fst_none _ 8 0 hf i (Nat.zero_le _) (by omega))
    omega
  | some e =>
    obtain ⟨g1, g2, g3⟩ := fst_spec _ 8 0 e hf
    have hp0 : ptr e = 0 := by
      simp [emE] at g1
      exact g1.1
    have o : On [a] M (M.si a 1 (nI e)) := On.rf_.put (by simp)
    have hM1 : LaC (M.si a 1 (nI e)) a p ptr (some e) := ⟨h.1.keep o, fun e' he' => by rw [o.2.2.2.2.2 p (by simp [Ne.symm hne])]; exact h.2.1 e' he', by rw [si_it, if_pos ⟨rfl, rfl⟩]; rfl, fun e' q => by cases q; omega⟩
    have h3 : (M.si a 1 (nI e)).it a 1 = nI e := hM1.2.2.1
    refine vc_X 40 _ _ _ _ _ _ _ ?_
    simp only [↓v47_0, ↓v47_1, ↓v47_3, ↓v47_6, ↓v47_7, ↓v47_8, ↓v47_9, ↓v47_12, ↓v47_15, ↓v47_18, ↓v47_19, ↓v47_22, ↓v47_23, ↓v47_26, ↓v47_27, ↓v47_28, ↓v47_29, ↓v47_31, ↓v47_34, ↓v47_35, ↓v47_38, ↓v47_39, ↓v47_42, ↓v47_43, ↓v47_44, ↓v47_45, ↓v47_46, ↓v47_49, ↓v47_52, ↓v47_53, ↓v47_56, ↓v47_59, ↓v47_62, ↓v47_63, ↓v47_64, ↓v47_65, ↓v47_68, ↓v47_70, ↓v47_71, ↓v47_72, ↓v47_75, ↓v47_76, ↓v47_79, ↓v47_80, ↓v47_81, ↓v47_82, ↓v47_83, ↓v47_86, ↓v47_87, ↓v47_90, ↓v47_91, ↓v47_92, ↓v47_93, ↓v47_94, ↓v47_95, ↓v47_96, ↓qI_c, ↓qL_c, ↓qR_c, ↓pA_o, ↓qC_i, ↓qC_r, ↓oA_s, ↓gI_0, ↓gI_1, ↓gI_2, ↓gI_3, ↓gI_4, ↓gI_5, ↓gI_6, ↓gI_7, ↓gI_8, ↓gI_9, ↓gI_10, ↓gR_0, ↓gR_1, ↓gR_2, ↓gR_3, ↓gR_4, ↓gR_5, ↓gR_6, ↓gR_7, ↓gR_8, ↓gR_9, ↓gR_10, ↓sL_0, ↓sL_1, ↓sL_2, ↓sL_3, ↓sL_4, ↓sL_5, ↓sL_6, ↓sL_7, ↓sL_8, ↓sL_9, ↓sL_10, ↓rrf_si, ↓rrf_sg, ↓shO_si, ↓shO_sg, ↓shO_sr, ↓shA_si, ↓shA_sg, ↓shA_sr, ↓pAs_0, ↓pAs_i, ↓pAs_r, stk_n, stk_i, stk_l, stk_r, List.nil_append, List.cons_append, true_and, and_true, true_or, or_true, Nat.zero_add, dp_s, Nat.reduceAdd, le8_0, le8_1, le8_2, le8_3, le8_4, le8_5, le8_6, le8_7, le8_8, Classical.not_not, aT40, aT41, aT42, aT44, aT54, aT58, aT59, rT54, rT58, rT59, reduceIte, Nat.reduceEqDiff, qn_42, qn_44, true_implies, not_true_eq_false, not_false_eq_true, false_implies, ↓shO_of h.1.1, show oI (some e) = nI e from rfl]
    refine vc_X 40 _ _ _ _ _ _ _ ?_
    simp only [↓v47_0, ↓v47_1, ↓v47_3, ↓v47_6, ↓v47_7, ↓v47_8, ↓v47_9, ↓v47_12, ↓v47_15, ↓v47_18, ↓v47_19, ↓v47_22, ↓v47_23, ↓v47_26, ↓v47_27, ↓v47_28, ↓v47_29, ↓v47_31, ↓v47_34, ↓v47_35, ↓v47_38, ↓v47_39, ↓v47_42, ↓v47_43, ↓v47_44, ↓v47_45, ↓v47_46, ↓v47_49, ↓v47_52, ↓v47_53, ↓v47_56, ↓v47_59, ↓v47_62, ↓v47_63, ↓v47_64, ↓v47_65, ↓v47_68, ↓v47_70, ↓v47_71, ↓v47_72, ↓v47_75, ↓v47_76, ↓v47_79, ↓v47_80, ↓v47_81, ↓v47_82, ↓v47_83, ↓v47_86, ↓v47_87, ↓v47_90, ↓v47_91, ↓v47_92, ↓v47_93, ↓v47_94, ↓v47_95, ↓v47_96, ↓qI_c, ↓qL_c, ↓qR_c, ↓pA_o, ↓qC_i, ↓qC_r, ↓oA_s, ↓gI_0, ↓gI_1, ↓gI_2, ↓gI_3, ↓gI_4, ↓gI_5, ↓gI_6, ↓gI_7, ↓gI_8, ↓gI_9, ↓gI_10, ↓gR_0, ↓gR_1, ↓gR_2, ↓gR_3, ↓gR_4, ↓gR_5, ↓gR_6, ↓gR_7, ↓gR_8, ↓gR_9, ↓gR_10, ↓sL_0, ↓sL_1, ↓sL_2, ↓sL_3, ↓sL_4, ↓sL_5, ↓sL_6, ↓sL_7, ↓sL_8, ↓sL_9, ↓sL_10, ↓rrf_si, ↓rrf_sg, ↓shO_si, ↓shO_sg, ↓shO_sr, ↓shA_si, ↓shA_sg, ↓shA_sr, ↓pAs_0, ↓pAs_i, ↓pAs_r, stk_n, stk_i, stk_l, stk_r, List.nil_append, List.cons_append, true_and, and_true, true_or, or_true, Nat.zero_add, dp_s, Nat.reduceAdd, le8_0, le8_1, le8_2, le8_3, le8_4, le8_5, le8_6, le8_7, le8_8, Classical.not_not, aT40, aT41, aT42, aT44, aT54, aT58, aT59, rT54, rT58, rT59, reduceIte, Nat.reduceEqDiff, qn_42, qn_44, true_implies, not_true_eq_false, not_false_eq_true, false_implies, ↓shO_of hM1.1.1, h3]
    refine k40 (fun _ => ⟨1, rfl, ?_⟩) (fun c => absurd (inB_n (by omega) (by omega)) c)
    exact t47 hM1 (by omega) hl.2 (by omega) (fun M' h5 o5 => h1 e M' (by omega) hf h5 ((o.mono (by simp)).trans o5 (by simp)))
theorem k47 {d : Nat} {M : Mm} {k : mQ} {a p n l : Nat} {ptr : Nat → Nat} {op : Option Nat} (h : LaC M a p ptr op) (hn : n < 1000) (hl : 1 ≤ l ∧ l < 100) (h0 : tkE ptr op n l = none → k (some (.inl (-1))) M)
    (h1 : ∀ e M', tkE ptr op n l = some e → LaC M' a p (upn ptr e (ptr e + n)) (some e) → On [a, p] M M' → k (some (.inl (nI (16 * e + ptr e)))) M') : XC (d + 4) 47 [.inr (some a), .inl (nI n), .inl (nI l)] M k := by
  refine xc ?_
  show X (d + 3) 47 0 [some (.inr (some a)), some (.inl (nI n)), some (.inl (nI l)), none] [] M k
  obtain ⟨⟨b1, b2, b3⟩, h2, h3, h4⟩ := id h
  refine vc_X 40 _ _ _ _ _ _ _ ?_
  simp only [↓v47_0, ↓v47_1, ↓v47_3, ↓v47_6, ↓v47_7, ↓v47_8, ↓v47_9, ↓v47_12, ↓v47_15, ↓v47_18, ↓v47_19, ↓v47_22, ↓v47_23, ↓v47_26, ↓v47_27, ↓v47_28, ↓v47_29, ↓v47_31, ↓v47_34, ↓v47_35, ↓v47_38, ↓v47_39, ↓v47_42, ↓v47_43, ↓v47_44, ↓v47_45, ↓v47_46, ↓v47_49, ↓v47_52, ↓v47_53, ↓v47_56, ↓v47_59, ↓v47_62, ↓v47_63, ↓v47_64, ↓v47_65, ↓v47_68, ↓v47_70, ↓v47_71, ↓v47_72, ↓v47_75, ↓v47_76, ↓v47_79, ↓v47_80, ↓v47_81, ↓v47_82, ↓v47_83, ↓v47_86, ↓v47_87, ↓v47_90, ↓v47_91, ↓v47_92, ↓v47_93, ↓v47_94, ↓v47_95, ↓v47_96, ↓qI_c, ↓qL_c, ↓qR_c, ↓pA_o, ↓qC_i, ↓qC_r, ↓oA_s, ↓gI_0, ↓gI_1, ↓gI_2, ↓gI_3, ↓gI_4, ↓gI_5, ↓gI_6, ↓gI_7, ↓gI_8, ↓gI_9, ↓gI_10, ↓gR_0, ↓gR_1, ↓gR_2, ↓gR_3, ↓gR_4, ↓gR_5, ↓gR_6, ↓gR_7, ↓gR_8, ↓gR_9, ↓gR_10, ↓sL_0, ↓sL_1, ↓sL_2, ↓sL_3, ↓sL_4, ↓sL_5, ↓sL_6, ↓sL_7, ↓sL_8, ↓sL_9, ↓sL_10, ↓rrf_si, ↓rrf_sg, ↓shO_si, ↓shO_sg, ↓shO_sr, ↓shA_si, ↓shA_sg, ↓shA_sr, ↓pAs_0, ↓pAs_i, ↓pAs_r, stk_n, stk_i, stk_l, stk_r, List.nil_append, List.cons_append, true_and, and_true, true_or, or_true, Nat.zero_add, dp_s, Nat.reduceAdd, le8_0, le8_1, le8_2, le8_3, le8_4, le8_5, le8_6, le8_7, le8_8, Classical.not_not, aT40, aT41, aT42, aT44, aT54, aT58, aT59, rT54, rT58, rT59, reduceIte, Nat.reduceEqDiff, qn_42, qn_44, true_implies, not_true_eq_false, not_false_eq_true, false_implies, le_T, nT (show n < 2147483648 by omega), T_16, ↓shO_of b1, h3]
  refine ⟨fun c => ?_, fun c => h0 (by unfold tkE; rw [if_pos (by omega)])⟩
  have hn16 : ¬ 16 < n := by omega
  cases op with
  | none =>
    refine k40 (fun c => absurd c.1 (by decide)) (fun _ => ⟨0, rfl, ?_⟩)
    refine vc_X 40 _ _ _ _ _ _ _ ?_
    simp only [↓v47_0, ↓v47_1, ↓v47_3, ↓v47_6, ↓v47_7, ↓v47_8, ↓v47_9, ↓v47_12, ↓v47_15, ↓v47_18, ↓v47_19, ↓v47_22, ↓v47_23, ↓v47_26, ↓v47_27, ↓v47_28, ↓v47_29, ↓v47_31, ↓v47_34, ↓v47_35, ↓v47_38, ↓v47_39, ↓v47_42, ↓v47_43, ↓v47_44, ↓v47_45, ↓v47_46, ↓v47_49, ↓v47_52, ↓v47_53, ↓v47_56, ↓v47_59, ↓v47_62, ↓v47_63, ↓v47_64, ↓v47_65, ↓v47_68, ↓v47_70, ↓v47_71, ↓v47_72, ↓v47_75, ↓v47_76, ↓v47_79, ↓v47_80, ↓v47_81, ↓v47_82, ↓v47_83, ↓v47_86, ↓v47_87, ↓v47_90, ↓v47_91, ↓v47_92, ↓v47_93, ↓v47_94, ↓v47_95, ↓v47_96, ↓qI_c, ↓qL_c, ↓qR_c, ↓pA_o, ↓qC_i, ↓qC_r, ↓oA_s, ↓gI_0, ↓gI_1, ↓gI_2, ↓gI_3, ↓gI_4, ↓gI_5, ↓gI_6, ↓gI_7, ↓gI_8, ↓gI_9, ↓gI_10, ↓gR_0, ↓gR_1, ↓gR_2, ↓gR_3, ↓gR_4, ↓gR_5, ↓gR_6, ↓gR_7, ↓gR_8, ↓gR_9, ↓gR_10, ↓sL_0, ↓sL_1, ↓sL_2, ↓sL_3, ↓sL_4, ↓sL_5, ↓sL_6, ↓sL_7, ↓sL_8, ↓sL_9, ↓sL_10, ↓rrf_si, ↓rrf_sg, ↓shO_si, ↓shO_sg, ↓shO_sr, ↓shA_si, ↓shA_sg, ↓shA_sr, ↓pAs_0, ↓pAs_i, ↓pAs_r, stk_n, stk_i, stk_l, stk_r, List.nil_append, List.cons_append, true_and, and_true, true_or, or_true, Nat.zero_add, dp_s, Nat.reduceAdd, le8_0, le8_1, le8_2, le8_3, le8_4, le8_5, le8_6, le8_7, le8_8, Classical.not_not, aT40, aT41, aT42, aT44, aT54, aT58, aT59, rT54, rT58, rT59, reduceIte, Nat.reduceEqDiff, qn_42, qn_44, true_implies, not_true_eq_false, not_false_eq_true, false_implies, i00, ↓shO_of b1]
    exact m47 h (by omega) hl (fun q => h0 (by unfold tkE; rw [if_neg hn16]; exact if_pos q)) (fun e M' q1 q2 => h1 e M' (by unfold tkE; rw [if_neg hn16]; exact (if_neg q1).trans q2))
  | some e =>
    have he : e < 8 := h4 e rfl
    have h3 : M.it a 1 = nI e := h3
    refine k40 (fun _ => ⟨1, rfl, ?_⟩) (fun c => absurd (inB_n he (by omega)) c)
    have hpe := (h2 e he).2
    refine vc_X 40 _ _ _ _ _ _ _ ?_
    simp only [↓v47_0, ↓v47_1, ↓v47_3, ↓v47_6, ↓v47_7, ↓v47_8, ↓v47_9, ↓v47_12, ↓v47_15, ↓v47_18, ↓v47_19, ↓v47_22, ↓v47_23, ↓v47_26, ↓v47_27, ↓v47_28, ↓v47_29, ↓v47_31, ↓v47_34, ↓v47_35, ↓v47_38, ↓v47_39, ↓v47_42, ↓v47_43, ↓v47_44, ↓v47_45, ↓v47_46, ↓v47_49, ↓v47_52, ↓v47_53, ↓v47_56, ↓v47_59, ↓v47_62, ↓v47_63, ↓v47_64, ↓v47_65, ↓v47_68, ↓v47_70, ↓v47_71, ↓v47_72, ↓v47_75, ↓v47_76, ↓v47_79, ↓v47_80, ↓v47_81, ↓v47_82, ↓v47_83, ↓v47_86, ↓v47_87, ↓v47_90, ↓v47_91, ↓v47_92, ↓v47_93, ↓v47_94, ↓v47_95, ↓v47_96, ↓qI_c, ↓qL_c, ↓qR_c, ↓pA_o, ↓qC_i, ↓qC_r, ↓oA_s, ↓gI_0, ↓gI_1, ↓gI_2, ↓gI_3, ↓gI_4, ↓gI_5, ↓gI_6, ↓gI_7, ↓gI_8, ↓gI_9, ↓gI_10, ↓gR_0, ↓gR_1, ↓gR_2, ↓gR_3, ↓gR_4, ↓gR_5, ↓gR_6, ↓gR_7, ↓gR_8, ↓gR_9, ↓gR_10, ↓sL_0, ↓sL_1, ↓sL_2, ↓sL_3, ↓sL_4, ↓sL_5, ↓sL_6, ↓sL_7, ↓sL_8, ↓sL_9, ↓sL_10, ↓rrf_si, ↓rrf_sg, ↓shO_si, ↓shO_sg, ↓shO_sr, ↓shA_si, ↓shA_sg, ↓shA_sr, ↓pAs_0, ↓pAs_i, ↓pAs_r, stk_n, stk_i, stk_l, stk_r, List.nil_append, List.cons_append, true_and, and_true, true_or, or_true, Nat.zero_add, dp_s, Nat.reduceAdd, le8_0, le8_1, le8_2, le8_3, le8_4, le8_5, le8_6, le8_7, le8_8, Classical.not_not, aT40, aT41, aT42, aT44, aT54, aT58, aT59, rT54, rT58, rT59, reduceIte, Nat.reduceEqDiff, qn_42, qn_44, true_implies, not_true_eq_false, not_false_eq_true, false_implies, i10, ↓shO_of b1, ↓rrf_of b2, ↓shA_of b3, h3, nC (show e < 2147483648 by omega), (h2 e he).1, nI_add, le_T, T_16, nT (show ptr e + n < 2147483648 by omega)]
    refine ⟨inB_n he (by omega), fun c1 => ?_, fun c1 => ?_⟩
    · refine vc_X 40 _ _ _ _ _ _ _ ?_
      simp only [↓v47_0, ↓v47_1, ↓v47_3, ↓v47_6, ↓v47_7, ↓v47_8, ↓v47_9, ↓v47_12, ↓v47_15, ↓v47_18, ↓v47_19, ↓v47_22, ↓v47_23, ↓v47_26, ↓v47_27, ↓v47_28, ↓v47_29, ↓v47_31, ↓v47_34, ↓v47_35, ↓v47_38, ↓v47_39, ↓v47_42, ↓v47_43, ↓v47_44, ↓v47_45, ↓v47_46, ↓v47_49, ↓v47_52, ↓v47_53, ↓v47_56, ↓v47_59, ↓v47_62, ↓v47_63, ↓v47_64, ↓v47_65, ↓v47_68, ↓v47_70, ↓v47_71, ↓v47_72, ↓v47_75, ↓v47_76, ↓v47_79, ↓v47_80, ↓v47_81, ↓v47_82, ↓v47_83, ↓v47_86, ↓v47_87, ↓v47_90, ↓v47_91, ↓v47_92, ↓v47_93, ↓v47_94, ↓v47_95, ↓v47_96, ↓qI_c, ↓qL_c, ↓qR_c, ↓pA_o, ↓qC_i, ↓qC_r, ↓oA_s, ↓gI_0, ↓gI_1, ↓gI_2, ↓gI_3, ↓gI_4, ↓gI_5, ↓gI_6, ↓gI_7, ↓gI_8, ↓gI_9, ↓gI_10, ↓gR_0, ↓gR_1, ↓gR_2, ↓gR_3, ↓gR_4, ↓gR_5, ↓gR_6, ↓gR_7, ↓gR_8, ↓gR_9, ↓gR_10, ↓sL_0, ↓sL_1, ↓sL_2, ↓sL_3, ↓sL_4, ↓sL_5, ↓sL_6, ↓sL_7, ↓sL_8, ↓sL_9, ↓sL_10, ↓rrf_si, ↓rrf_sg, ↓shO_si, ↓shO_sg, ↓shO_sr, ↓shA_si, ↓shA_sg, ↓shA_sr, ↓pAs_0, ↓pAs_i, ↓pAs_r, stk_n, stk_i, stk_l, stk_r, List.nil_append, List.cons_append, true_and, and_true, true_or, or_true, Nat.zero_add, dp_s, Nat.reduceAdd, le8_0, le8_1, le8_2, le8_3, le8_4, le8_5, le8_6, le8_7, le8_8, Classical.not_not, aT40, aT41, aT42, aT44, aT54, aT58, aT59, rT54, rT58, rT59, reduceIte, Nat.reduceEqDiff, qn_42, qn_44, true_implies, not_true_eq_false, not_false_eq_true, false_implies, ↓shO_of b1, h3]
      refine k40 (fun _ => ⟨1, rfl, ?_⟩) (fun c => absurd (inB_n he (by omega)) c)
      exact t47 h hn hl.2 (by omega) (fun M' h5 o5 => h1 e M' (by unfold tkE; rw [if_neg hn16]; exact if_pos (by omega)) h5 (o5.mono (by simp)))
    · exact m47 h (by omega) hl (fun q => h0 (by unfold tkE; rw [if_neg hn16]; exact (if_neg (by omega)).trans (if_pos q))) (fun e' M' q1 q2 => h1 e' M' (by unfold tkE; rw [if_neg hn16]; exact (if_neg (by omega)).trans ((if_neg q1).trans q2)))
theorem k89 {d : Nat} {M : Mm} {k : mQ} {a p e : Nat} {ptr : Nat → Nat} {op : Option Nat} (h : LaC M a p ptr op) (he : e < 8) (hk : ∀ M', LaC M' a p (upn ptr e 0) op → On [p] M M' → k none M') : XC (d + 2) 89 [.inr (some a), .inl (nI e)] M k := by
  have hne := h.1.ne
  obtain ⟨⟨b1, b2, b3⟩, h2, h3, h4⟩ := h
  refine xc ?_
  show X (d + 1) 89 0 [some (.inr (some a)), some (.inl (nI e))] [] M k
  refine vc_X 20 _ _ _ _ _ _ _ ?_
  simp only [↓v89_0, ↓v89_1, ↓v89_4, ↓v89_7, ↓v89_8, ↓v89_11, ↓v89_12, ↓v89_13, ↓v89_14, ↓qI_c, ↓qL_c, ↓qR_c, ↓pA_o, ↓qC_i, ↓qC_r, ↓oA_s, ↓gI_0, ↓gI_1, ↓gI_2, ↓gI_3, ↓gI_4, ↓gI_5, ↓gI_6, ↓gI_7, ↓gI_8, ↓gI_9, ↓gI_10, ↓gR_0, ↓gR_1, ↓gR_2, ↓gR_3, ↓gR_4, ↓gR_5, ↓gR_6, ↓gR_7, ↓gR_8, ↓gR_9, ↓gR_10, ↓sL_0, ↓sL_1, ↓sL_2, ↓sL_3, ↓sL_4, ↓sL_5, ↓sL_6, ↓sL_7, ↓sL_8, ↓sL_9, ↓sL_10, ↓rrf_si, ↓rrf_sg, ↓shO_si, ↓shO_sg, ↓shO_sr, ↓shA_si, ↓shA_sg, ↓shA_sr, ↓pAs_0, ↓pAs_i, ↓pAs_r, stk_n, stk_i, stk_l, stk_r, List.nil_append, List.cons_append, true_and, and_true, true_or, or_true, Nat.zero_add, dp_s, Nat.reduceAdd, le8_0, le8_1, le8_2, le8_3, le8_4, le8_5, le8_6, le8_7, le8_8, Classical.not_not, aT40, aT41, aT42, aT44, aT54, aT58, aT59, rT54, rT58, rT59, reduceIte, Nat.reduceEqDiff, qn_42, qn_44, true_implies, not_true_eq_false, not_false_eq_true, false_implies]
  refine k40 (fun _ => ⟨1, rfl, ?_⟩) (fun c => absurd (inB_n he (by omega)) c)
  refine vc_X 20 _ _ _ _ _ _ _ ?_
  simp only [↓v89_0, ↓v89_1, ↓v89_4, ↓v89_7, ↓v89_8, ↓v89_11, ↓v89_12, ↓v89_13, ↓v89_14, ↓qI_c, ↓qL_c, ↓qR_c, ↓pA_o, ↓qC_i, ↓qC_r, ↓oA_s, ↓gI_0, ↓gI_1, ↓gI_2, ↓gI_3, ↓gI_4, ↓gI_5, ↓gI_6, ↓gI_7, ↓gI_8, ↓gI_9, ↓gI_10, ↓gR_0, ↓gR_1, ↓gR_2, ↓gR_3, ↓gR_4, ↓gR_5, ↓gR_6, ↓gR_7, ↓gR_8, ↓gR_9, ↓gR_10, ↓sL_0, ↓sL_1, ↓sL_2, ↓sL_3, ↓sL_4, ↓sL_5, ↓sL_6, ↓sL_7, ↓sL_8, ↓sL_9, ↓sL_10, ↓rrf_si, ↓rrf_sg, ↓shO_si, ↓shO_sg, ↓shO_sr, ↓shA_si, ↓shA_sg, ↓shA_sr, ↓pAs_0, ↓pAs_i, ↓pAs_r, stk_n, stk_i, stk_l, stk_r, List.nil_append, List.cons_append, true_and, and_true, true_or, or_true, Nat.zero_add, dp_s, Nat.reduceAdd, le8_0, le8_1, le8_2, le8_3, le8_4, le8_5, le8_6, le8_7, le8_8, Classical.not_not, aT40, aT41, aT42, aT44, aT54, aT58, aT59, rT54, rT58, rT59, reduceIte, Nat.reduceEqDiff, qn_42, qn_44, true_implies, not_true_eq_false, not_false_eq_true, false_implies, i10, ↓shO_of b1, ↓rrf_of b2, ↓shA_of b3, nC (show e < 2147483648 by omega)]
  refine ⟨inB_n he (by omega), ?_⟩
  have o : On [p] M (M.si p e 0) := On.rf_.put (by simp)
  refine hk _ ⟨⟨b1, b2, b3⟩, fun e' he' => ?_, by rw [si_it, if_neg (fun q => hne q.1)]; exact h3, h4⟩ o
  rw [si_it]
  unfold upn
  by_cases hee : e' = e
  · rw [if_pos ⟨rfl, hee⟩, if_pos hee]
    exact ⟨rfl, Nat.zero_le _⟩
  · rw [if_neg (fun q => hee q.2), if_neg hee]
    exact h2 e' he'
theorem lop46 {d : Nat} {k : mQ} {a p a2 p2 : Nat} {ptr : Nat → Nat} {op : Option Nat} (h1 : a2 ≠ a) (h2 : a2 ≠ p) (h3 : p2 ≠ a) (h4 : p2 ≠ p) : ∀ (m i : Nat) (M : Mm), i + m = 8 → La M a p → LaC M a2 p2 ptr op → (∀ e, e < i → M.it p e = nI (ptr e)) → (∀ M', LaC M' a p ptr op → On [a, p] M M' → k none M') →
    X d 46 2 [some (.inr (some a)), some (.inr (some a2)), some (.inl (nI i))] [] M k := by
  intro m
  induction m with
  | zero =>
    intro i M hi hL h hp hk
    have : i = 8 := by omega
    subst this
    have hne := hL.ne
    refine vc_X 30 _ _ _ _ _ _ _ ?_
    simp only [↓v46_0, ↓v46_1, ↓v46_2, ↓v46_3, ↓v46_5, ↓v46_8, ↓v46_9, ↓v46_12, ↓v46_13, ↓v46_14, ↓v46_17, ↓v46_18, ↓v46_19, ↓v46_20, ↓v46_23, ↓v46_26, ↓v46_27, ↓v46_28, ↓v46_31, ↓v46_34, ↓qI_c, ↓qL_c, ↓qR_c, ↓pA_o, ↓qC_i, ↓qC_r, ↓oA_s, ↓gI_0, ↓gI_1, ↓gI_2, ↓gI_3, ↓gI_4, ↓gI_5, ↓gI_6, ↓gI_7, ↓gI_8, ↓gI_9, ↓gI_10, ↓gR_0, ↓gR_1, ↓gR_2, ↓gR_3, ↓gR_4, ↓gR_5, ↓gR_6, ↓gR_7, ↓gR_8, ↓gR_9, ↓gR_10, ↓sL_0, ↓sL_1, ↓sL_2, ↓sL_3, ↓sL_4, ↓sL_5, ↓sL_6, ↓sL_7, ↓sL_8, ↓sL_9, ↓sL_10, ↓rrf_si, ↓rrf_sg, ↓shO_si, ↓shO_sg, ↓shO_sr, ↓shA_si, ↓shA_sg, ↓shA_sr, ↓pAs_0, ↓pAs_i, ↓pAs_r, stk_n, stk_i, stk_l, stk_r, List.nil_append, List.cons_append, true_and, and_true, true_or, or_true, Nat.zero_add, dp_s, Nat.reduceAdd, le8_0, le8_1, le8_2, le8_3, le8_4, le8_5, le8_6, le8_7, le8_8, Classical.not_not, aT40, aT41, aT42, aT44, aT54, aT58, aT59, rT54, rT58, rT59, reduceIte, Nat.reduceEqDiff, qn_42, qn_44, true_implies, not_true_eq_false, not_false_eq_true, false_implies, le_T, nT (show 8 < 2147483648 by omega), T_8, ↓shO_of hL.1, ↓shO_of h.1.1, h.2.2.1]
    refine ⟨fun _ => ?_, fun c => absurd (by decide) c⟩
    have o : On [a, p] M (M.si a 1 (oI op)) := On.rf_.put (by simp)
    refine hk _ ⟨hL.keep o, fun e he => ?_, by rw [si_it, if_pos ⟨rfl, rfl⟩], h.2.2.2⟩ o
    rw [si_it, if_neg (fun q => hne q.1.symm)]
    exact ⟨hp e he, (h.2.1 e he).2⟩
  | succ m ih =>
    intro i M hi hL h hp hk
    refine vc_X 30 _ _ _ _ _ _ _ ?_
    simp only [↓v46_0, ↓v46_1, ↓v46_2, ↓v46_3, ↓v46_5, ↓v46_8, ↓v46_9, ↓v46_12, ↓v46_13, ↓v46_14, ↓v46_17, ↓v46_18, ↓v46_19, ↓v46_20, ↓v46_23, ↓v46_26, ↓v46_27, ↓v46_28, ↓v46_31, ↓v46_34, ↓qI_c, ↓qL_c, ↓qR_c, ↓pA_o, ↓qC_i, ↓qC_r, ↓oA_s, ↓gI_0, ↓gI_1, ↓gI_2, ↓gI_3, ↓gI_4, ↓gI_5, ↓gI_6, ↓gI_7, ↓gI_8, ↓gI_9, ↓gI_10, ↓gR_0, ↓gR_1, ↓gR_2, ↓gR_3, ↓gR_4, ↓gR_5, ↓gR_6, ↓gR_7, ↓gR_8, ↓gR_9, ↓gR_10, ↓sL_0, ↓sL_1, ↓sL_2, ↓sL_3, ↓sL_4, ↓sL_5, ↓sL_6, ↓sL_7, ↓sL_8, ↓sL_9, ↓sL_10, ↓rrf_si, ↓rrf_sg, ↓shO_si, ↓shO_sg, ↓shO_sr, ↓shA_si, ↓shA_sg, ↓shA_sr, ↓pAs_0, ↓pAs_i, ↓pAs_r, stk_n, stk_i, stk_l, stk_r, List.nil_append, List.cons_append, true_and, and_true, true_or, or_true, Nat.zero_add, dp_s, Nat.reduceAdd, le8_0, le8_1, le8_2, le8_3, le8_4, le8_5, le8_6, le8_7, le8_8, Classical.not_not, aT40, aT41, aT42, aT44, aT54, aT58, aT59, rT54, rT58, rT59, reduceIte, Nat.reduceEqDiff, qn_42, qn_44, true_implies, not_true_eq_false, not_false_eq_true, false_implies, le_T, nT (show i < 2147483648 by omega), T_8, ↓shO_of hL.1, ↓rrf_of hL.2.1, ↓shA_of hL.2.2, ↓shO_of h.1.1, ↓rrf_of h.1.2.1, ↓shA_of h.1.2.2, nC (show i < 2147483648 by omega), (h.2.1 i (by omega)).1, nI_1]
    refine ⟨fun c => by omega, fun _ => ⟨inB_n (by omega) (by omega), inB_n (by omega) (by omega), ?_⟩⟩
    have o : On [a, p] M (M.si p i (nI (ptr i))) := On.rf_.put (by simp)
    refine ih (i + 1) _ (by omega) (hL.keep o) (h.keep o (by simp [h1, h2]) (by simp [h3, h4])) (fun e he => ?_) (fun M' h5 o5 => hk M' h5 (o.trans o5 (fun x q => q)))
    rw [si_it]
    by_cases hee : e = i
    · rw [if_pos ⟨rfl, hee⟩, hee]
    · rw [if_neg (fun q => hee q.2)]
      exact hp e (by omega)
theorem k46 {d : Nat} {M : Mm} {k : mQ} {a p a2 p2 : Nat} {ptr : Nat → Nat} {op : Option Nat} (h1 : a2 ≠ a) (h2 : a2 ≠ p) (h3 : p2 ≠ a) (h4 : p2 ≠ p) (hL : La M a p) (h : LaC M a2 p2 ptr op) (hk : ∀ M', LaC M' a p ptr op → On [a, p] M M' → k none M') : XC (d + 1) 46 [.inr (some a), .inr (some a2)] M k := by
  refine xc ?_
  show X d 46 0 [some (.inr (some a)), some (.inr (some a2)), none] [] M k
  refine vc_X 20 _ _ _ _ _ _ _ ?_
  simp only [↓v46_0, ↓v46_1, ↓v46_2, ↓v46_3, ↓v46_5, ↓v46_8, ↓v46_9, ↓v46_12, ↓v46_13, ↓v46_14, ↓v46_17, ↓v46_18, ↓v46_19, ↓v46_20, ↓v46_23, ↓v46_26, ↓v46_27, ↓v46_28, ↓v46_31, ↓v46_34, ↓qI_c, ↓qL_c, ↓qR_c, ↓pA_o, ↓qC_i, ↓qC_r, ↓oA_s, ↓gI_0, ↓gI_1, ↓gI_2, ↓gI_3, ↓gI_4, ↓gI_5, ↓gI_6, ↓gI_7, ↓gI_8, ↓gI_9, ↓gI_10, ↓gR_0, ↓gR_1, ↓gR_2, ↓gR_3, ↓gR_4, ↓gR_5, ↓gR_6, ↓gR_7, ↓gR_8, ↓gR_9, ↓gR_10, ↓sL_0, ↓sL_1, ↓sL_2, ↓sL_3, ↓sL_4, ↓sL_5, ↓sL_6, ↓sL_7, ↓sL_8, ↓sL_9, ↓sL_10, ↓rrf_si, ↓rrf_sg, ↓shO_si, ↓shO_sg, ↓shO_sr, ↓shA_si, ↓shA_sg, ↓shA_sr, ↓pAs_0, ↓pAs_i, ↓pAs_r, stk_n, stk_i, stk_l, stk_r, List.nil_append, List.cons_append, true_and, and_true, true_or, or_true, Nat.zero_add, dp_s, Nat.reduceAdd, le8_0, le8_1, le8_2, le8_3, le8_4, le8_5, le8_6, le8_7, le8_8, Classical.not_not, aT40, aT41, aT42, aT44, aT54, aT58, aT59, rT54, rT58, rT59, reduceIte, Nat.reduceEqDiff, qn_42, qn_44, true_implies, not_true_eq_false, not_false_eq_true, false_implies]
  exact lop46 h1 h2 h3 h4 8 0 M rfl hL h (fun e he => by omega) hk
