/-! reclaim -/
theorem c88 {d : Nat} {M : Mm} {k : mQ} {b key p e : Nat} {s : Ms} (h : CM M b s) (hw : WI s) (hk48 : key < 48) (hp : plO s.ch s.tb (some key) = some p) (p1 : p < 128) (p2 : lnS s.V p ≤ 100) (p3 : p + (lnS s.V p + 5) / 16 < 128) (hct : ∀ v ∈ ctS s.V p (lnS s.V p), v < 256) (he : tkE s.pt s.op ((lnS s.V p + 23) / 16) 1 = some e) (he2 : e < 8 ∧ s.pt e + (lnS s.V p + 23) / 16 ≤ 16) (hn : s.ws.length + (lnS s.V p + 23) / 16 ≤ 120) (hmd : s.md + (lnS s.V p + 23) / 16 < 1000000) (hst : s.st + 1 < 1000000)
    (hk : ∀ M', CM M' b (sCh key (16 * e + s.pt e) (mkC 1 key (ctS s.V p (lnS s.V p)) e s)) → Of (fun y => PM b y ∨ y = b + 271 ∨ y = b + 272 ∨ PX (b + 255) y) M M' → k none M') : XC (d + 6) 88 [.inr (some b), .inl (nI key)] M k := by
  have h0 := h
  obtain ⟨D, pm, ws, im, G, a, h, r⟩ := h
  have hI : IxC M (b + 255) im s.ch s.tb := h.2.2.2.2.2.1
  have hln : lnA D.1 ws p = lnS s.V p := r.2.2.2.1.ln_ hw.1 hw.2 r.1 p1
  refine xc ?_
  show X (d + 5) 88 0 [some (.inr (some b)), some (.inl (nI key))] [] M k
  refine vc_X 20 _ _ _ _ _ _ _ ?_
  simp only [↓v88_0, ↓v88_1, ↓v88_2, ↓v88_5, ↓v88_6, ↓v88_9, ↓v88_10, ↓v88_13, ↓v88_16, ↓v88_17, ↓v88_20, ↓v88_23, ↓v88_24, ↓v88_25, ↓v88_26, ↓v88_27, ↓v88_28, ↓v88_31, ↓v88_34, ↓qI_c, ↓qL_c, ↓qR_c, ↓pA_o, ↓qC_i, ↓qC_r, ↓oA_s, ↓gI_0, ↓gI_1, ↓gI_2, ↓gI_3, ↓gI_4, ↓gI_5, ↓gI_6, ↓gI_7, ↓gI_8, ↓gI_9, ↓gI_10, ↓gR_0, ↓gR_1, ↓gR_2, ↓gR_3, ↓gR_4, ↓gR_5, ↓gR_6, ↓gR_7, ↓gR_8, ↓gR_9, ↓gR_10, ↓sL_0, ↓sL_1, ↓sL_2, ↓sL_3, ↓sL_4, ↓sL_5, ↓sL_6, ↓sL_7, ↓sL_8, ↓sL_9, ↓sL_10, ↓rrf_si, ↓rrf_sg, ↓shO_si, ↓shO_sg, ↓shO_sr, ↓shA_si, ↓shA_sg, ↓shA_sr, ↓pAs_0, ↓pAs_i, ↓pAs_r, stk_n, stk_i, stk_l, stk_r, List.nil_append, List.cons_append, true_and, and_true, true_or, or_true, Nat.zero_add, dp_s, Nat.reduceAdd, le8_0, le8_1, le8_2, le8_3, le8_4, le8_5, le8_6, le8_7, le8_8, Classical.not_not, aT40, aT41, aT42, aT44, aT54, aT58, aT59, rT54, rT58, rT59, reduceIte, Nat.reduceEqDiff, qn_42, qn_44, true_implies, not_true_eq_false, not_false_eq_true, false_implies, ↓shO_of h.1.1.1, ↓rrf_of h.1.1.2.2.2.2.2.2, ↓shO_of hI.1.1]
  refine k60 hI ⟨_, rfl, ?_⟩
  rw [keyOf_n hk48, hp]
  show X _ 88 9 _ [.inl (nI p), .inr (.inr (some b))] M k
  refine vc_X 20 _ _ _ _ _ _ _ ?_
  simp only [↓v88_0, ↓v88_1, ↓v88_2, ↓v88_5, ↓v88_6, ↓v88_9, ↓v88_10, ↓v88_13, ↓v88_16, ↓v88_17, ↓v88_20, ↓v88_23, ↓v88_24, ↓v88_25, ↓v88_26, ↓v88_27, ↓v88_28, ↓v88_31, ↓v88_34, ↓qI_c, ↓qL_c, ↓qR_c, ↓pA_o, ↓qC_i, ↓qC_r, ↓oA_s, ↓gI_0, ↓gI_1, ↓gI_2, ↓gI_3, ↓gI_4, ↓gI_5, ↓gI_6, ↓gI_7, ↓gI_8, ↓gI_9, ↓gI_10, ↓gR_0, ↓gR_1, ↓gR_2, ↓gR_3, ↓gR_4, ↓gR_5, ↓gR_6, ↓gR_7, ↓gR_8, ↓gR_9, ↓gR_10, ↓sL_0, ↓sL_1, ↓sL_2, ↓sL_3, ↓sL_4, ↓sL_5, ↓sL_6, ↓sL_7, ↓sL_8, ↓sL_9, ↓sL_10, ↓rrf_si, ↓rrf_sg, ↓shO_si, ↓shO_sg, ↓shO_sr, ↓shA_si, ↓shA_sg, ↓shA_sr, ↓pAs_0, ↓pAs_i, ↓pAs_r, stk_n, stk_i, stk_l, stk_r, List.nil_append, List.cons_append, true_and, and_true, true_or, or_true, Nat.zero_add, dp_s, Nat.reduceAdd, le8_0, le8_1, le8_2, le8_3, le8_4, le8_5, le8_6, le8_7, le8_8, Classical.not_not, aT40, aT41, aT42, aT44, aT54, aT58, aT59, rT54, rT58, rT59, reduceIte, Nat.reduceEqDiff, qn_42, qn_44, true_implies, not_true_eq_false, not_false_eq_true, false_implies, ↓shO_of h.1.1.1, ↓rrf_of h.1.2.1.2.2.1]
  refine k31 (Q := (pm, s.md, ws)) h.rd (r.2.2.2.1.okW_ hw.1 hw.2) h.1.2.2.2.2.1 p1 (by show p + (lnA D.1 ws p + 5) / 16 < 128; rw [hln]; exact p3) (by omega) (by omega) (fun M1 b1 o1 => ⟨rfl, ?_⟩)
  have b1 : BC M1 (b + 271) (b + 272) 255 ((ctS s.V p (lnS s.V p)).map nI) := by
    have e : ctA D.1 ws p (lnA D.1 ws p) = ctS s.V p (lnS s.V p) := by rw [hln]; exact r.2.2.2.1.ct_ hw.1 hw.2 r.1 p3
    rw [← e]
    exact b1
  have h1 := h.upZn o1 (by simp [PZ])
  have hI1 : IxC M1 (b + 255) im s.ch s.tb := h1.2.2.2.2.2.1
  have hcm : CM M1 b s := ⟨D, pm, ws, im, G, a, h1, r⟩
  have hcl := ctS_len s.V p (lnS s.V p)
  refine vc_X 20 _ _ _ _ _ _ _ ?_
  simp only [↓v88_0, ↓v88_1, ↓v88_2, ↓v88_5, ↓v88_6, ↓v88_9, ↓v88_10, ↓v88_13, ↓v88_16, ↓v88_17, ↓v88_20, ↓v88_23, ↓v88_24, ↓v88_25, ↓v88_26, ↓v88_27, ↓v88_28, ↓v88_31, ↓v88_34, ↓qI_c, ↓qL_c, ↓qR_c, ↓pA_o, ↓qC_i, ↓qC_r, ↓oA_s, ↓gI_0, ↓gI_1, ↓gI_2, ↓gI_3, ↓gI_4, ↓gI_5, ↓gI_6, ↓gI_7, ↓gI_8, ↓gI_9, ↓gI_10, ↓gR_0, ↓gR_1, ↓gR_2, ↓gR_3, ↓gR_4, ↓gR_5, ↓gR_6, ↓gR_7, ↓gR_8, ↓gR_9, ↓gR_10, ↓sL_0, ↓sL_1, ↓sL_2, ↓sL_3, ↓sL_4, ↓sL_5, ↓sL_6, ↓sL_7, ↓sL_8, ↓sL_9, ↓sL_10, ↓rrf_si, ↓rrf_sg, ↓shO_si, ↓shO_sg, ↓shO_sr, ↓shA_si, ↓shA_sg, ↓shA_sr, ↓pAs_0, ↓pAs_i, ↓pAs_r, stk_n, stk_i, stk_l, stk_r, List.nil_append, List.cons_append, true_and, and_true, true_or, or_true, Nat.zero_add, dp_s, Nat.reduceAdd, le8_0, le8_1, le8_2, le8_3, le8_4, le8_5, le8_6, le8_7, le8_8, Classical.not_not, aT40, aT41, aT42, aT44, aT54, aT58, aT59, rT54, rT58, rT59, reduceIte, Nat.reduceEqDiff, qn_42, qn_44, true_implies, not_true_eq_false, not_false_eq_true, false_implies, ↓shO_of h1.1.1.1, ↓rrf_of h1.1.1.2.2.2.2.2.2, ↓shO_of hI1.1.1, ↓rrf_of hI1.1.2.1]
  refine c52 (kind := 1) (l := 1) hcm hw b1 hct (by omega) (by omega) hst (by omega) (by rw [hcl]; exact he) (by rw [hcl]; exact he2) (by rw [hcl]; exact hn) (by rw [hcl]; exact hmd) (fun M6 h6 o6 => ⟨_, rfl, ?_⟩)
  obtain ⟨D6, pm6, ws6, im6, G6, a6, h6, r6⟩ := h6
  have hI6 : IxC M6 (b + 255) im6 s.ch s.tb := h6.2.2.2.2.2.1
  have hE6 : EnC M6 (b + 256) (b + 257) s.ch none := hI6.2.1
  refine vc_X 40 _ _ _ _ _ _ _ ?_
  simp only [↓v88_0, ↓v88_1, ↓v88_2, ↓v88_5, ↓v88_6, ↓v88_9, ↓v88_10, ↓v88_13, ↓v88_16, ↓v88_17, ↓v88_20, ↓v88_23, ↓v88_24, ↓v88_25, ↓v88_26, ↓v88_27, ↓v88_28, ↓v88_31, ↓v88_34, ↓qI_c, ↓qL_c, ↓qR_c, ↓pA_o, ↓qC_i, ↓qC_r, ↓oA_s, ↓gI_0, ↓gI_1, ↓gI_2, ↓gI_3, ↓gI_4, ↓gI_5, ↓gI_6, ↓gI_7, ↓gI_8, ↓gI_9, ↓gI_10, ↓gR_0, ↓gR_1, ↓gR_2, ↓gR_3, ↓gR_4, ↓gR_5, ↓gR_6, ↓gR_7, ↓gR_8, ↓gR_9, ↓gR_10, ↓sL_0, ↓sL_1, ↓sL_2, ↓sL_3, ↓sL_4, ↓sL_5, ↓sL_6, ↓sL_7, ↓sL_8, ↓sL_9, ↓sL_10, ↓rrf_si, ↓rrf_sg, ↓shO_si, ↓shO_sg, ↓shO_sr, ↓shA_si, ↓shA_sg, ↓shA_sr, ↓pAs_0, ↓pAs_i, ↓pAs_r, stk_n, stk_i, stk_l, stk_r, List.nil_append, List.cons_append, true_and, and_true, true_or, or_true, Nat.zero_add, dp_s, Nat.reduceAdd, le8_0, le8_1, le8_2, le8_3, le8_4, le8_5, le8_6, le8_7, le8_8, Classical.not_not, aT40, aT41, aT42, aT44, aT54, aT58, aT59, rT54, rT58, rT59, reduceIte, Nat.reduceEqDiff, qn_42, qn_44, true_implies, not_true_eq_false, not_false_eq_true, false_implies, ↓shO_of hE6.1.1]
  refine k38p hE6 hk48 (show 16 * e + s.pt e < 128 by omega) (fun M7 n7 o7 => ⟨rfl, ?_⟩)
  have h7 := h6.upI (hI6.chg n7 o7) (o7.of (fun y hy => by simp at hy; unfold PX; omega))
  refine vc_X 20 _ _ _ _ _ _ _ ?_
  simp only [↓v88_0, ↓v88_1, ↓v88_2, ↓v88_5, ↓v88_6, ↓v88_9, ↓v88_10, ↓v88_13, ↓v88_16, ↓v88_17, ↓v88_20, ↓v88_23, ↓v88_24, ↓v88_25, ↓v88_26, ↓v88_27, ↓v88_28, ↓v88_31, ↓v88_34, ↓qI_c, ↓qL_c, ↓qR_c, ↓pA_o, ↓qC_i, ↓qC_r, ↓oA_s, ↓gI_0, ↓gI_1, ↓gI_2, ↓gI_3, ↓gI_4, ↓gI_5, ↓gI_6, ↓gI_7, ↓gI_8, ↓gI_9, ↓gI_10, ↓gR_0, ↓gR_1, ↓gR_2, ↓gR_3, ↓gR_4, ↓gR_5, ↓gR_6, ↓gR_7, ↓gR_8, ↓gR_9, ↓gR_10, ↓sL_0, ↓sL_1, ↓sL_2, ↓sL_3, ↓sL_4, ↓sL_5, ↓sL_6, ↓sL_7, ↓sL_8, ↓sL_9, ↓sL_10, ↓rrf_si, ↓rrf_sg, ↓shO_si, ↓shO_sg, ↓shO_sr, ↓shA_si, ↓shA_sg, ↓shA_sr, ↓pAs_0, ↓pAs_i, ↓pAs_r, stk_n, stk_i, stk_l, stk_r, List.nil_append, List.cons_append, true_and, and_true, true_or, or_true, Nat.zero_add, dp_s, Nat.reduceAdd, le8_0, le8_1, le8_2, le8_3, le8_4, le8_5, le8_6, le8_7, le8_8, Classical.not_not, aT40, aT41, aT42, aT44, aT54, aT58, aT59, rT54, rT58, rT59, reduceIte, Nat.reduceEqDiff, qn_42, qn_44, true_implies, not_true_eq_false, not_false_eq_true, false_implies]
  refine hk M7 ⟨D6, pm6, ws6, im6, G6, a6, h7, r6⟩ ?_
  exact ((o1.of (P := fun y => PM b y ∨ y = b + 271 ∨ y = b + 272 ∨ PX (b + 255) y) (fun y hy => by simp at hy; omega)).trans o6 (fun y hy => Or.inl hy)).trans (o7.of (P := fun y => PM b y ∨ y = b + 271 ∨ y = b + 272 ∨ PX (b + 255) y) (fun y hy => by simp at hy; right; right; right; unfold PX; omega)) (fun _ h => h)
theorem mvK_nd (e : Nat) (s : Ms) : (mvK e s).Nodup := by
  unfold mvK
  refine List.pairwise_filterMap.mpr (List.pairwise_lt_range.imp ?_)
  intro x y hxy k hk l hl e1
  have h1 := (fst_spec _ _ _ _ hk).1
  have h2 := (fst_spec _ _ _ _ hl).1
  unfold isAt at h1 h2
  rw [beq_iff_eq] at h1 h2
  rw [e1, h2] at h1
  have := Option.some.inj h1
  omega
def nbI (z : Nat × List Nat) : Nat := (z.2.length + 23) / 16
theorem trF_mvO : ∀ (items : List (Nat × List Nat)) (s : Ms), trF (items.map nbI) s.L = (mvO items s).map Ms.L
  | [], s => rfl
  | z :: l, s => by
    show (match tk1 s.L (nbI z) with
      | some L2 => trF (l.map nbI) L2
      | none => none) = Option.map Ms.L (match tkE s.pt s.op (nbI z) 1 with
      | none => none
      | some e => mvO l (sCh z.1 (16 * e + s.pt e) (mkC 1 z.1 z.2 e s)))
    unfold tk1
    show (match (match tkE s.pt s.op (nbI z) 1 with
      | some e => some (upn s.L.1 e (s.L.1 e + nbI z), some e)
      | none => none) with
      | some L2 => trF (l.map nbI) L2
      | none => none) = _
    cases tkE s.pt s.op (nbI z) 1 with
    | none => rfl
    | some e => exact trF_mvO l (sCh z.1 (16 * e + s.pt e) (mkC 1 z.1 z.2 e s))
theorem sumN_B : ∀ (items : List (Nat × List Nat)), sumN (items.map nbI) = sumB items
  | [] => rfl
  | z :: l => by
    show nbI z + sumN (l.map nbI) = nbI z + sumB l
    rw [sumN_B l]
/-- what one key's chunk was at first -/
def itK (s : Ms) (k : Nat) : Nat × List Nat := (k, ctS s.V (plK s k) (lnS s.V (plK s k)))
theorem mvI_eq (e : Nat) (s : Ms) : mvI e s = (mvK e s).map (itK s) := rfl
/-- the objects are moved, one by one -/
theorem lop83 {d c e0 : Nat} {k : mQ} {b n0 : Nat} {s s2 : Ms} {M0 : Mm} {z3 z4 : Option mL} {keys : List Nat} (hlen : keys.length ≤ 16) (o0 : On_ s) (hB0 : BtI s.dk s.ws) (hpl : ∀ key ∈ keys, key < 48 ∧ ∃ p, plO s.ch s.tb (some key) = some p ∧ p / 16 = e0) (he0 : e0 < 8)
    (hk : ∀ M', CM M' b s2 → Of (fun y => PM b y ∨ y = b + 271 ∨ y = b + 272 ∨ PX (b + 255) y) M0 M' → X (d + 6) 83 181 [some (.inr (some b)), some (.inl (nI e0)), some (.inl (nI keys.length)), z3, z4, some (.inl (nI keys.length))] [] M' k) :
    ∀ (l : List Nat) (i m t : Nat) (M1 : Mm) (s1 : Ms), keys.drop i = l → i + l.length = keys.length → l.Nodup → CM M1 b s1 → MvC M1 b keys → On_ s1 → BdM c m t s1 → m + sumB (l.map (itK s)) ≤ 100 → t + l.length ≤ 100 → c < 512 → s1.ws.length + sumB (l.map (itK s)) ≤ 120 → s1.op ≠ some e0 → s1.pt e0 ≠ 0 → (∀ key ∈ l, plO s1.ch s1.tb (some key) = plO s.ch s.tb (some key)) → (∀ q, q / 16 = e0 → s1.V q = s.V q) → mvO (l.map (itK s)) s1 = some s2 → Of (fun y => PM b y ∨ y = b + 271 ∨ y = b + 272 ∨ PX (b + 255) y) M0 M1 →
    X (d + 6) 83 151 [some (.inr (some b)), some (.inl (nI e0)), some (.inl (nI keys.length)), z3, z4, some (.inl (nI i))] [] M1 k := by
  intro l
  induction l with
  | nil =>
    intro i m t M1 s1 hd hil hnd h1 m1 o1 b1 hm ht hc hw hop hpt hpk hV hmv oA
    have e : i = keys.length := by simpa using hil
    subst e
    have hmv : some s1 = some s2 := hmv
    cases hmv
    refine vc_X 20 _ _ _ _ _ _ _ ?_
    simp only [↓v83_0, ↓v83_1, ↓v83_4, ↓v83_7, ↓v83_8, ↓v83_11, ↓v83_14, ↓v83_15, ↓v83_16, ↓v83_19, ↓v83_22, ↓v83_25, ↓v83_26, ↓v83_29, ↓v83_30, ↓v83_33, ↓v83_36, ↓v83_37, ↓v83_38, ↓v83_39, ↓v83_40, ↓v83_43, ↓v83_44, ↓v83_45, ↓v83_46, ↓v83_47, ↓v83_48, ↓v83_51, ↓v83_52, ↓v83_54, ↓v83_57, ↓v83_58, ↓v83_59, ↓v83_62, ↓v83_63, ↓v83_66, ↓v83_67, ↓v83_68, ↓v83_71, ↓v83_74, ↓v83_77, ↓v83_80, ↓v83_81, ↓v83_84, ↓v83_85, ↓v83_88, ↓v83_91, ↓v83_94, ↓v83_97, ↓v83_98, ↓v83_101, ↓v83_102, ↓v83_105, ↓v83_108, ↓v83_109, ↓v83_112, ↓v83_113, ↓v83_114, ↓v83_115, ↓v83_116, ↓v83_117, ↓v83_120, ↓v83_122, ↓v83_124, ↓v83_125, ↓v83_128, ↓v83_130, ↓v83_131, ↓v83_132, ↓v83_135, ↓v83_137, ↓v83_138, ↓v83_139, ↓v83_142, ↓v83_145, ↓v83_147, ↓v83_148, ↓v83_149, ↓v83_151, ↓v83_153, ↓v83_154, ↓v83_157, ↓v83_159, ↓v83_161, ↓v83_164, ↓v83_165, ↓v83_166, ↓v83_169, ↓v83_171, ↓v83_172, ↓v83_175, ↓v83_178, ↓v83_181, ↓v83_182, ↓v83_185, ↓v83_186, ↓v83_187, ↓v83_190, ↓v83_193, ↓v83_194, ↓v83_196, ↓v83_197, ↓v83_200, ↓v83_201, ↓v83_204, ↓v83_205, ↓v83_207, ↓v83_208, ↓v83_211, ↓v83_212, ↓v83_215, ↓v83_216, ↓v83_217, ↓v83_220, ↓v83_221, ↓v83_222, ↓qI_c, ↓qL_c, ↓qR_c, ↓pA_o, ↓qC_i, ↓qC_r, ↓oA_s, ↓gI_0, ↓gI_1, ↓gI_2, ↓gI_3, ↓gI_4, ↓gI_5, ↓gI_6, ↓gI_7, ↓gI_8, ↓gI_9, ↓gI_10, ↓gR_0, ↓gR_1, ↓gR_2, ↓gR_3, ↓gR_4, ↓gR_5, ↓gR_6, ↓gR_7, ↓gR_8, ↓gR_9, ↓gR_10, ↓sL_0, ↓sL_1, ↓sL_2, ↓sL_3, ↓sL_4, ↓sL_5, ↓sL_6, ↓sL_7, ↓sL_8, ↓sL_9, ↓sL_10, ↓rrf_si, ↓rrf_sg, ↓shO_si, ↓shO_sg, ↓shO_sr, ↓shA_si, ↓shA_sg, ↓shA_sr, ↓pAs_0, ↓pAs_i, ↓pAs_r, stk_n, stk_i, stk_l, stk_r, List.nil_append, List.cons_append, true_and, and_true, true_or, or_true, Nat.zero_add, dp_s, Nat.reduceAdd, le8_0, le8_1, le8_2, le8_3, le8_4, le8_5, le8_6, le8_7, le8_8, Classical.not_not, aT40, aT41, aT42, aT44, aT54, aT58, aT59, rT54, rT58, rT59, reduceIte, Nat.reduceEqDiff, qn_42, qn_44, true_implies, not_true_eq_false, not_false_eq_true, false_implies, le_T, nT (show keys.length < 2147483648 by omega), Int.le_refl]
    exact hk M1 h1 oA
  | cons key l ih =>
    intro i m t M1 s1 hd hil hnd h1 m1 o1 b1 hm ht hc hw hop hpt hpk hV hmv oA
    have hil2 : i < keys.length := by rw [List.length_cons] at hil; omega
    have hki : keys[i]? = some key := by
      have : (keys.drop i)[0]? = some key := by rw [hd]; rfl
      rw [List.getElem?_drop] at this
      exact this
    have hd2 : keys.drop (i + 1) = l := by
      have : (keys.drop i).drop 1 = l := by rw [hd]; rfl
      rw [List.drop_drop] at this
      exact this
    obtain ⟨hk48, p, hpp, hpe⟩ := hpl key (List.mem_of_getElem? hki)
    have hp1 := hpk key (by simp)
    rw [hpp] at hp1
    have hplk : plK s key = p := by unfold plK; rw [hpp]; rfl
    obtain ⟨w1, w2, w3, w4, w5, w6, w7, w8⟩ := o0.2.2.2.1
    obtain ⟨q1, q2⟩ := w5 key p hk48 hpp
    have q2 : lnS s.V p ≤ 100 := q2
    have q3 : p % 16 + nbS s.V p ≤ s.pt (p / 16) := w6 p (Or.inl ⟨key, hk48, hpp⟩)
    have q4 := w1 (p / 16) (by omega)
    have q5 : nbS s.V p = (lnS s.V p + 23) / 16 := rfl
    have eln : lnS s1.V p = lnS s.V p := by unfold lnS; rw [hV p hpe]
    have ect : ctS s1.V p (lnS s1.V p) = ctS s.V p (lnS s.V p) := by
      rw [eln]
      unfold ctS
      refine List.map_congr_left (fun j hj => ?_)
      rw [List.mem_range] at hj
      rw [hV _ (by omega)]
    have hcl := ctS_len s.V p (lnS s.V p)
    have esum : sumB ((key :: l).map (itK s)) = (lnS s.V p + 23) / 16 + sumB (l.map (itK s)) := by
      show ((ctS s.V (plK s key) (lnS s.V (plK s key))).length + 23) / 16 + sumB (l.map (itK s)) = _
      rw [hplk, hcl]
    rw [esum] at hm hw
    have hmv : (match tkE s1.pt s1.op (((itK s key).2.length + 23) / 16) 1 with
      | none => none
      | some e => mvO (l.map (itK s)) (sCh key (16 * e + s1.pt e) (mkC 1 key (itK s key).2 e s1))) = some s2 := hmv
    have eit : (itK s key).2 = ctS s.V p (lnS s.V p) := by unfold itK; rw [hplk]
    rw [eit, hcl] at hmv
    cases hte : tkE s1.pt s1.op ((lnS s.V p + 23) / 16) 1 with
    | none => rw [hte] at hmv; cases hmv
    | some e =>
      rw [hte] at hmv
      have hmv : mvO (l.map (itK s)) (sCh key (16 * e + s1.pt e) (mkC 1 key (ctS s.V p (lnS s.V p)) e s1)) = some s2 := hmv
      obtain ⟨e1, e2⟩ := tkE_ok b1.2.2.1.2 hte
      have e3 := tkE_ne hop hpt hte
      have hmi := m1 i key hki
      have h1' := h1
      obtain ⟨D, pm, ws, im, G, a, hc1, r1⟩ := h1'
      refine vc_X 30 _ _ _ _ _ _ _ ?_
      simp only [↓v83_0, ↓v83_1, ↓v83_4, ↓v83_7, ↓v83_8, ↓v83_11, ↓v83_14, ↓v83_15, ↓v83_16, ↓v83_19, ↓v83_22, ↓v83_25, ↓v83_26, ↓v83_29, ↓v83_30, ↓v83_33, ↓v83_36, ↓v83_37, ↓v83_38, ↓v83_39, ↓v83_40, ↓v83_43, ↓v83_44, ↓v83_45, ↓v83_46, ↓v83_47, ↓v83_48, ↓v83_51, ↓v83_52, ↓v83_54, ↓v83_57, ↓v83_58, ↓v83_59, ↓v83_62, ↓v83_63, ↓v83_66, ↓v83_67, ↓v83_68, ↓v83_71, ↓v83_74, ↓v83_77, ↓v83_80, ↓v83_81, ↓v83_84, ↓v83_85, ↓v83_88, ↓v83_91, ↓v83_94, ↓v83_97, ↓v83_98, ↓v83_101, ↓v83_102, ↓v83_105, ↓v83_108, ↓v83_109, ↓v83_112, ↓v83_113, ↓v83_114, ↓v83_115, ↓v83_116, ↓v83_117, ↓v83_120, ↓v83_122, ↓v83_124, ↓v83_125, ↓v83_128, ↓v83_130, ↓v83_131, ↓v83_132, ↓v83_135, ↓v83_137, ↓v83_138, ↓v83_139, ↓v83_142, ↓v83_145, ↓v83_147, ↓v83_148, ↓v83_149, ↓v83_151, ↓v83_153, ↓v83_154, ↓v83_157, ↓v83_159, ↓v83_161, ↓v83_164, ↓v83_165, ↓v83_166, ↓v83_169, ↓v83_171, ↓v83_172, ↓v83_175, ↓v83_178, ↓v83_181, ↓v83_182, ↓v83_185, ↓v83_186, ↓v83_187, ↓v83_190, ↓v83_193, ↓v83_194, ↓v83_196, ↓v83_197, ↓v83_200, ↓v83_201, ↓v83_204, ↓v83_205, ↓v83_207, ↓v83_208, ↓v83_211, ↓v83_212, ↓v83_215, ↓v83_216, ↓v83_217, ↓v83_220, ↓v83_221, ↓v83_222, ↓qI_c, ↓qL_c, ↓qR_c, ↓pA_o, ↓qC_i, ↓qC_r, ↓oA_s, ↓gI_0, ↓gI_1, ↓gI_2, ↓gI_3, ↓gI_4, ↓gI_5, ↓gI_6, ↓gI_7, ↓gI_8, ↓gI_9, ↓gI_10, ↓gR_0, ↓gR_1, ↓gR_2, ↓gR_3, ↓gR_4, ↓gR_5, ↓gR_6, ↓gR_7, ↓gR_8, ↓gR_9, ↓gR_10, ↓sL_0, ↓sL_1, ↓sL_2, ↓sL_3, ↓sL_4, ↓sL_5, ↓sL_6, ↓sL_7, ↓sL_8, ↓sL_9, ↓sL_10, ↓rrf_si, ↓rrf_sg, ↓shO_si, ↓shO_sg, ↓shO_sr, ↓shA_si, ↓shA_sg, ↓shA_sr, ↓pAs_0, ↓pAs_i, ↓pAs_r, stk_n, stk_i, stk_l, stk_r, List.nil_append, List.cons_append, true_and, and_true, true_or, or_true, Nat.zero_add, dp_s, Nat.reduceAdd, le8_0, le8_1, le8_2, le8_3, le8_4, le8_5, le8_6, le8_7, le8_8, Classical.not_not, aT40, aT41, aT42, aT44, aT54, aT58, aT59, rT54, rT58, rT59, reduceIte, Nat.reduceEqDiff, qn_42, qn_44, true_implies, not_true_eq_false, not_false_eq_true, false_implies, le_T, nT (show i < 2147483648 by omega), nT (show keys.length < 2147483648 by omega), T_16, ↓shO_of hc1.1.1.1, ↓rrf_of hc1.1.2.1.2.2.2.2.2.1, ↓shA_of hc1.1.2.2.1.2.1, nC (show i < 2147483648 by omega), hmi]
      refine ⟨fun c => by omega, fun _ => ⟨fun c => by omega, fun _ => ⟨inB_n (by omega) (by omega), ?_⟩⟩⟩
      have hbt : ∀ v ∈ ctS s.V p (lnS s.V p), v < 256 := by
        intro v hv
        unfold ctS at hv
        obtain ⟨j, hj, ev⟩ := List.mem_map.mp hv
        rw [List.mem_range] at hj
        subst ev
        exact o0.vb hB0 (by omega) _
      have a2 := b1.1.1
      have a3 := b1.1.2.1
      refine c88 (p := p) (e := e) h1 ⟨o1.1.1, b1.2.2.2.1⟩ hk48 hp1 q1 (by omega) (by omega) (by rw [ect]; exact hbt) (by rw [eln]; exact hte) (by rw [eln]; exact ⟨e1, e2⟩) (by omega) (by omega) (by omega) (fun M2 h2 o2 => ⟨rfl, ?_⟩)
      rw [ect] at h2
      have on2 := o1.obj (k := key) (ct := ctS s.V p (lnS s.V p)) e1 (by rw [hcl]; exact e2) (by omega)
      have bd2 := b1.obj (k := key) (ct := ctS s.V p (lnS s.V p)) hk48 (by omega) hbt e1
      rw [List.nodup_cons] at hnd
      refine vc_X 20 _ _ _ _ _ _ _ ?_
      simp only [↓v83_0, ↓v83_1, ↓v83_4, ↓v83_7, ↓v83_8, ↓v83_11, ↓v83_14, ↓v83_15, ↓v83_16, ↓v83_19, ↓v83_22, ↓v83_25, ↓v83_26, ↓v83_29, ↓v83_30, ↓v83_33, ↓v83_36, ↓v83_37, ↓v83_38, ↓v83_39, ↓v83_40, ↓v83_43, ↓v83_44, ↓v83_45, ↓v83_46, ↓v83_47, ↓v83_48, ↓v83_51, ↓v83_52, ↓v83_54, ↓v83_57, ↓v83_58, ↓v83_59, ↓v83_62, ↓v83_63, ↓v83_66, ↓v83_67, ↓v83_68, ↓v83_71, ↓v83_74, ↓v83_77, ↓v83_80, ↓v83_81, ↓v83_84, ↓v83_85, ↓v83_88, ↓v83_91, ↓v83_94, ↓v83_97, ↓v83_98, ↓v83_101, ↓v83_102, ↓v83_105, ↓v83_108, ↓v83_109, ↓v83_112, ↓v83_113, ↓v83_114, ↓v83_115, ↓v83_116, ↓v83_117, ↓v83_120, ↓v83_122, ↓v83_124, ↓v83_125, ↓v83_128, ↓v83_130, ↓v83_131, ↓v83_132, ↓v83_135, ↓v83_137, ↓v83_138, ↓v83_139, ↓v83_142, ↓v83_145, ↓v83_147, ↓v83_148, ↓v83_149, ↓v83_151, ↓v83_153, ↓v83_154, ↓v83_157, ↓v83_159, ↓v83_161, ↓v83_164, ↓v83_165, ↓v83_166, ↓v83_169, ↓v83_171, ↓v83_172, ↓v83_175, ↓v83_178, ↓v83_181, ↓v83_182, ↓v83_185, ↓v83_186, ↓v83_187, ↓v83_190, ↓v83_193, ↓v83_194, ↓v83_196, ↓v83_197, ↓v83_200, ↓v83_201, ↓v83_204, ↓v83_205, ↓v83_207, ↓v83_208, ↓v83_211, ↓v83_212, ↓v83_215, ↓v83_216, ↓v83_217, ↓v83_220, ↓v83_221, ↓v83_222, ↓qI_c, ↓qL_c, ↓qR_c, ↓pA_o, ↓qC_i, ↓qC_r, ↓oA_s, ↓gI_0, ↓gI_1, ↓gI_2, ↓gI_3, ↓gI_4, ↓gI_5, ↓gI_6, ↓gI_7, ↓gI_8, ↓gI_9, ↓gI_10, ↓gR_0, ↓gR_1, ↓gR_2, ↓gR_3, ↓gR_4, ↓gR_5, ↓gR_6, ↓gR_7, ↓gR_8, ↓gR_9, ↓gR_10, ↓sL_0, ↓sL_1, ↓sL_2, ↓sL_3, ↓sL_4, ↓sL_5, ↓sL_6, ↓sL_7, ↓sL_8, ↓sL_9, ↓sL_10, ↓rrf_si, ↓rrf_sg, ↓shO_si, ↓shO_sg, ↓shO_sr, ↓shA_si, ↓shA_sg, ↓shA_sr, ↓pAs_0, ↓pAs_i, ↓pAs_r, stk_n, stk_i, stk_l, stk_r, List.nil_append, List.cons_append, true_and, and_true, true_or, or_true, Nat.zero_add, dp_s, Nat.reduceAdd, le8_0, le8_1, le8_2, le8_3, le8_4, le8_5, le8_6, le8_7, le8_8, Classical.not_not, aT40, aT41, aT42, aT44, aT54, aT58, aT59, rT54, rT58, rT59, reduceIte, Nat.reduceEqDiff, qn_42, qn_44, true_implies, not_true_eq_false, not_false_eq_true, false_implies, nI_1]
      refine ih (i + 1) _ _ M2 _ hd2 (by rw [List.length_cons] at hil; omega) hnd.2 h2 (fun j v hj => by rw [(o2.2.2.2 (b + 276) (by unfold PM PQ PX; omega) j).1]; exact m1 j v hj) on2 bd2 (by rw [hcl]; omega) (by rw [List.length_cons] at ht; omega) hc ?_ ?_ ?_ (fun k2 hk2 => ?_) (fun q hq => ?_) hmv (oA.trans o2 (fun _ h => h))
      · show (s1.ws ++ nwM s1.ws s1.md (16 * e + s1.pt e) (chL 1 key (ctS s.V p (lnS s.V p)) s1.st) (s1.em e) (fun _ => false) (((ctS s.V p (lnS s.V p)).length + 23) / 16)).length + sumB (l.map (itK s)) ≤ 120
        rw [List.length_append, nwM_len, hcl]
        omega
      · show some e ≠ some e0
        intro q
        cases q
        exact e3 rfl
      · show upn s1.pt e _ e0 ≠ 0
        unfold upn
        rw [if_neg (fun q => e3 q.symm)]
        exact hpt
      · show plO (ups s1.ch key (some (16 * e + s1.pt e))) s1.tb (some k2) = _
        rw [plO_put (by omega), if_neg (fun q => hnd.1 (by rw [← q]; exact hk2))]
        exact hpk k2 (by simp [hk2])
      · rw [mv_V (by rw [hcl]; exact e2) e3 hq]
        exact hV q hq
