/-! reclaim as a whole -/
theorem mvO_has : ∀ (items : List (Nat × List Nat)) (s s2 : Ms), (∀ z ∈ items, z.1 < 48) → (∀ e, s.op = some e → e < 8) → mvO items s = some s2 → ∀ k, hasK s2.ch s2.tb k = (hasK s.ch s.tb k || items.any (fun z => z.1 == k))
  | [], s, s2, _, _, h, k => by
    have h : some s = some s2 := h
    cases h
    simp
  | z :: l, s, s2, hz, ho, h, k => by
    have h : (match tkE s.pt s.op ((z.2.length + 23) / 16) 1 with
      | none => none
      | some e => mvO l (sCh z.1 (16 * e + s.pt e) (mkC 1 z.1 z.2 e s))) = some s2 := h
    cases ht : tkE s.pt s.op ((z.2.length + 23) / 16) 1 with
    | none => rw [ht] at h; cases h
    | some e =>
      rw [ht] at h
      obtain ⟨e1, e2⟩ := tkE_ok ho ht
      have ih := mvO_has l (sCh z.1 (16 * e + s.pt e) (mkC 1 z.1 z.2 e s)) s2 (fun y hy => hz y (by simp [hy])) (fun e' he' => by
        have he' : some e = some e' := he'
        cases he'
        exact e1) h k
      rw [ih, List.any_cons]
      have e3 : hasK (sCh z.1 (16 * e + s.pt e) (mkC 1 z.1 z.2 e s)).ch (sCh z.1 (16 * e + s.pt e) (mkC 1 z.1 z.2 e s)).tb k = (hasK s.ch s.tb k || (z.1 == k)) := by
        show (plO (ups s.ch z.1 (some (16 * e + s.pt e))) s.tb (some k)).isSome = _
        rw [plO_put (by omega)]
        by_cases c : k = z.1
        · rw [if_pos c, c]; simp
        · rw [if_neg c, show (z.1 == k) = false from beq_eq_false_iff_ne.mpr (fun q => c q.symm), Bool.or_false]
          rfl
      rw [e3, Bool.or_assoc]
/-- the blocks of the live objects are used -/
theorem lopU83 {d c e0 : Nat} {k : mQ} {b : Nat} {s : Ms} {M0 : Mm} {D : DT} {pm : Nat → Nat} {ws : List WT} {im : Nat → Nat} {G : Nat → RecT} {a : Nat} {z4 z5 : Option mL} {keys : List Nat} (hlen : keys.length ≤ 16) (r : CR s D pm ws G a) (hi : IvS c s) (hpl : ∀ key ∈ keys, key < 48 ∧ ∃ p, plO s.ch s.tb (some key) = some p) :
    ∀ (l : List Nat) (i : Nat) (M1 : Mm) (Cc : List Nat × Nat), keys.drop i = l → i + l.length = keys.length → CP M1 b D (pm, s.md, ws) Cc s.L (im, s.I) s.T s.E (G, a, s.F.2) → MvC M1 b keys → Cc.2 + 100 * (l.length + 1) < 50000000 → On [b + 249, b + 250] M0 M1 → (∀ M', CP M' b D (pm, s.md, ws) (mvC s l Cc) s.L (im, s.I) s.T s.E (G, a, s.F.2) → MvC M' b keys → On [b + 249, b + 250] M0 M' → X (d + 6) 83 80 [some (.inr (some b)), some (.inl (nI e0)), some (.inl (nI keys.length)), some (.inl (nI keys.length)), z4, z5] [] M' k) →
    X (d + 6) 83 46 [some (.inr (some b)), some (.inl (nI e0)), some (.inl (nI keys.length)), some (.inl (nI i)), z4, z5] [] M1 k := by
  intro l
  induction l with
  | nil =>
    intro i M1 Cc hd hil h1 m1 hC o1 hk
    have e : i = keys.length := by simpa using hil
    subst e
    refine vc_X 20 _ _ _ _ _ _ _ ?_
    simp only [↓v83_0, ↓v83_1, ↓v83_4, ↓v83_7, ↓v83_8, ↓v83_11, ↓v83_14, ↓v83_15, ↓v83_16, ↓v83_19, ↓v83_22, ↓v83_25, ↓v83_26, ↓v83_29, ↓v83_30, ↓v83_33, ↓v83_36, ↓v83_37, ↓v83_38, ↓v83_39, ↓v83_40, ↓v83_43, ↓v83_44, ↓v83_45, ↓v83_46, ↓v83_47, ↓v83_48, ↓v83_51, ↓v83_52, ↓v83_54, ↓v83_57, ↓v83_58, ↓v83_59, ↓v83_62, ↓v83_63, ↓v83_66, ↓v83_67, ↓v83_68, ↓v83_71, ↓v83_74, ↓v83_77, ↓v83_80, ↓v83_81, ↓v83_84, ↓v83_85, ↓v83_88, ↓v83_91, ↓v83_94, ↓v83_97, ↓v83_98, ↓v83_101, ↓v83_102, ↓v83_105, ↓v83_108, ↓v83_109, ↓v83_112, ↓v83_113, ↓v83_114, ↓v83_115, ↓v83_116, ↓v83_117, ↓v83_120, ↓v83_122, ↓v83_124, ↓v83_125, ↓v83_128, ↓v83_130, ↓v83_131, ↓v83_132, ↓v83_135, ↓v83_137, ↓v83_138, ↓v83_139, ↓v83_142, ↓v83_145, ↓v83_147, ↓v83_148, ↓v83_149, ↓v83_151, ↓v83_153, ↓v83_154, ↓v83_157, ↓v83_159, ↓v83_161, ↓v83_164, ↓v83_165, ↓v83_166, ↓v83_169, ↓v83_171, ↓v83_172, ↓v83_175, ↓v83_178, ↓v83_181, ↓v83_182, ↓v83_185, ↓v83_186, ↓v83_187, ↓v83_190, ↓v83_193, ↓v83_194, ↓v83_196, ↓v83_197, ↓v83_200, ↓v83_201, ↓v83_204, ↓v83_205, ↓v83_207, ↓v83_208, ↓v83_211, ↓v83_212, ↓v83_215, ↓v83_216, ↓v83_217, ↓v83_220, ↓v83_221, ↓v83_222, ↓qI_c, ↓qL_c, ↓qR_c, ↓pA_o, ↓qC_i, ↓qC_r, ↓oA_s, ↓gI_0, ↓gI_1, ↓gI_2, ↓gI_3, ↓gI_4, ↓gI_5, ↓gI_6, ↓gI_7, ↓gI_8, ↓gI_9, ↓gI_10, ↓gR_0, ↓gR_1, ↓gR_2, ↓gR_3, ↓gR_4, ↓gR_5, ↓gR_6, ↓gR_7, ↓gR_8, ↓gR_9, ↓gR_10, ↓sL_0, ↓sL_1, ↓sL_2, ↓sL_3, ↓sL_4, ↓sL_5, ↓sL_6, ↓sL_7, ↓sL_8, ↓sL_9, ↓sL_10, ↓rrf_si, ↓rrf_sg, ↓shO_si, ↓shO_sg, ↓shO_sr, ↓shA_si, ↓shA_sg, ↓shA_sr, ↓pAs_0, ↓pAs_i, ↓pAs_r, stk_n, stk_i, stk_l, stk_r, List.nil_append, List.cons_append, true_and, and_true, true_or, or_true, Nat.zero_add, dp_s, Nat.reduceAdd, le8_0, le8_1, le8_2, le8_3, le8_4, le8_5, le8_6, le8_7, le8_8, Classical.not_not, aT40, aT41, aT42, aT44, aT54, aT58, aT59, rT54, rT58, rT59, reduceIte, Nat.reduceEqDiff, qn_42, qn_44, true_implies, not_true_eq_false, not_false_eq_true, false_implies, le_T, nT (show keys.length < 2147483648 by omega), Int.le_refl]
    exact hk M1 h1 m1 o1
  | cons key l ih =>
    intro i M1 Cc hd hil h1 m1 hC o1 hk
    have hil2 : i < keys.length := by rw [List.length_cons] at hil; omega
    have hki : keys[i]? = some key := by
      have : (keys.drop i)[0]? = some key := by rw [hd]; rfl
      rw [List.getElem?_drop] at this
      exact this
    have hd2 : keys.drop (i + 1) = l := by
      have : (keys.drop i).drop 1 = l := by rw [hd]; rfl
      rw [List.drop_drop] at this
      exact this
    obtain ⟨hk48, p, hpp⟩ := hpl key (List.mem_of_getElem? hki)
    have hI : IxC M1 (b + 255) im s.ch s.tb := h1.2.2.2.2.2.1
    have hp128 := plO_lt hI hk48 hpp
    have hmi := m1 i key hki
    have hplk : plK s key = p := by unfold plK; rw [hpp]; rfl
    have hnb : nbA D.1 ws p = nbS s.V p := r.2.2.2.1.nb_ hi.nb hi.bt r.1 hp128
    refine vc_X 30 _ _ _ _ _ _ _ ?_
    simp only [↓v83_0, ↓v83_1, ↓v83_4, ↓v83_7, ↓v83_8, ↓v83_11, ↓v83_14, ↓v83_15, ↓v83_16, ↓v83_19, ↓v83_22, ↓v83_25, ↓v83_26, ↓v83_29, ↓v83_30, ↓v83_33, ↓v83_36, ↓v83_37, ↓v83_38, ↓v83_39, ↓v83_40, ↓v83_43, ↓v83_44, ↓v83_45, ↓v83_46, ↓v83_47, ↓v83_48, ↓v83_51, ↓v83_52, ↓v83_54, ↓v83_57, ↓v83_58, ↓v83_59, ↓v83_62, ↓v83_63, ↓v83_66, ↓v83_67, ↓v83_68, ↓v83_71, ↓v83_74, ↓v83_77, ↓v83_80, ↓v83_81, ↓v83_84, ↓v83_85, ↓v83_88, ↓v83_91, ↓v83_94, ↓v83_97, ↓v83_98, ↓v83_101, ↓v83_102, ↓v83_105, ↓v83_108, ↓v83_109, ↓v83_112, ↓v83_113, ↓v83_114, ↓v83_115, ↓v83_116, ↓v83_117, ↓v83_120, ↓v83_122, ↓v83_124, ↓v83_125, ↓v83_128, ↓v83_130, ↓v83_131, ↓v83_132, ↓v83_135, ↓v83_137, ↓v83_138, ↓v83_139, ↓v83_142, ↓v83_145, ↓v83_147, ↓v83_148, ↓v83_149, ↓v83_151, ↓v83_153, ↓v83_154, ↓v83_157, ↓v83_159, ↓v83_161, ↓v83_164, ↓v83_165, ↓v83_166, ↓v83_169, ↓v83_171, ↓v83_172, ↓v83_175, ↓v83_178, ↓v83_181, ↓v83_182, ↓v83_185, ↓v83_186, ↓v83_187, ↓v83_190, ↓v83_193, ↓v83_194, ↓v83_196, ↓v83_197, ↓v83_200, ↓v83_201, ↓v83_204, ↓v83_205, ↓v83_207, ↓v83_208, ↓v83_211, ↓v83_212, ↓v83_215, ↓v83_216, ↓v83_217, ↓v83_220, ↓v83_221, ↓v83_222, ↓qI_c, ↓qL_c, ↓qR_c, ↓pA_o, ↓qC_i, ↓qC_r, ↓oA_s, ↓gI_0, ↓gI_1, ↓gI_2, ↓gI_3, ↓gI_4, ↓gI_5, ↓gI_6, ↓gI_7, ↓gI_8, ↓gI_9, ↓gI_10, ↓gR_0, ↓gR_1, ↓gR_2, ↓gR_3, ↓gR_4, ↓gR_5, ↓gR_6, ↓gR_7, ↓gR_8, ↓gR_9, ↓gR_10, ↓sL_0, ↓sL_1, ↓sL_2, ↓sL_3, ↓sL_4, ↓sL_5, ↓sL_6, ↓sL_7, ↓sL_8, ↓sL_9, ↓sL_10, ↓rrf_si, ↓rrf_sg, ↓shO_si, ↓shO_sg, ↓shO_sr, ↓shA_si, ↓shA_sg, ↓shA_sr, ↓pAs_0, ↓pAs_i, ↓pAs_r, stk_n, stk_i, stk_l, stk_r, List.nil_append, List.cons_append, true_and, and_true, true_or, or_true, Nat.zero_add, dp_s, Nat.reduceAdd, le8_0, le8_1, le8_2, le8_3, le8_4, le8_5, le8_6, le8_7, le8_8, Classical.not_not, aT40, aT41, aT42, aT44, aT54, aT58, aT59, rT54, rT58, rT59, reduceIte, Nat.reduceEqDiff, qn_42, qn_44, true_implies, not_true_eq_false, not_false_eq_true, false_implies, le_T, nT (show i < 2147483648 by omega), nT (show keys.length < 2147483648 by omega), T_16, ↓shO_of h1.1.1.1, ↓rrf_of h1.1.1.2.2.2.2.2.2, ↓rrf_of h1.1.2.1.2.2.2.2.2.1, ↓shA_of h1.1.2.2.1.2.1, nC (show i < 2147483648 by omega), hmi, ↓shO_of hI.1.1]
    refine ⟨fun c => by omega, fun _ => ⟨fun c => by omega, fun _ => ⟨inB_n (by omega) (by omega), k60 hI ⟨_, rfl, ?_⟩⟩⟩⟩
    rw [keyOf_n hk48, hpp]
    show X _ 83 71 _ [.inl (nI p), .inr (.inr (some b))] M1 k
    refine vc_X 20 _ _ _ _ _ _ _ ?_
    simp only [↓v83_0, ↓v83_1, ↓v83_4, ↓v83_7, ↓v83_8, ↓v83_11, ↓v83_14, ↓v83_15, ↓v83_16, ↓v83_19, ↓v83_22, ↓v83_25, ↓v83_26, ↓v83_29, ↓v83_30, ↓v83_33, ↓v83_36, ↓v83_37, ↓v83_38, ↓v83_39, ↓v83_40, ↓v83_43, ↓v83_44, ↓v83_45, ↓v83_46, ↓v83_47, ↓v83_48, ↓v83_51, ↓v83_52, ↓v83_54, ↓v83_57, ↓v83_58, ↓v83_59, ↓v83_62, ↓v83_63, ↓v83_66, ↓v83_67, ↓v83_68, ↓v83_71, ↓v83_74, ↓v83_77, ↓v83_80, ↓v83_81, ↓v83_84, ↓v83_85, ↓v83_88, ↓v83_91, ↓v83_94, ↓v83_97, ↓v83_98, ↓v83_101, ↓v83_102, ↓v83_105, ↓v83_108, ↓v83_109, ↓v83_112, ↓v83_113, ↓v83_114, ↓v83_115, ↓v83_116, ↓v83_117, ↓v83_120, ↓v83_122, ↓v83_124, ↓v83_125, ↓v83_128, ↓v83_130, ↓v83_131, ↓v83_132, ↓v83_135, ↓v83_137, ↓v83_138, ↓v83_139, ↓v83_142, ↓v83_145, ↓v83_147, ↓v83_148, ↓v83_149, ↓v83_151, ↓v83_153, ↓v83_154, ↓v83_157, ↓v83_159, ↓v83_161, ↓v83_164, ↓v83_165, ↓v83_166, ↓v83_169, ↓v83_171, ↓v83_172, ↓v83_175, ↓v83_178, ↓v83_181, ↓v83_182, ↓v83_185, ↓v83_186, ↓v83_187, ↓v83_190, ↓v83_193, ↓v83_194, ↓v83_196, ↓v83_197, ↓v83_200, ↓v83_201, ↓v83_204, ↓v83_205, ↓v83_207, ↓v83_208, ↓v83_211, ↓v83_212, ↓v83_215, ↓v83_216, ↓v83_217, ↓v83_220, ↓v83_221, ↓v83_222, ↓qI_c, ↓qL_c, ↓qR_c, ↓pA_o, ↓qC_i, ↓qC_r, ↓oA_s, ↓gI_0, ↓gI_1, ↓gI_2, ↓gI_3, ↓gI_4, ↓gI_5, ↓gI_6, ↓gI_7, ↓gI_8, ↓gI_9, ↓gI_10, ↓gR_0, ↓gR_1, ↓gR_2, ↓gR_3, ↓gR_4, ↓gR_5, ↓gR_6, ↓gR_7, ↓gR_8, ↓gR_9, ↓gR_10, ↓sL_0, ↓sL_1, ↓sL_2, ↓sL_3, ↓sL_4, ↓sL_5, ↓sL_6, ↓sL_7, ↓sL_8, ↓sL_9, ↓sL_10, ↓rrf_si, ↓rrf_sg, ↓shO_si, ↓shO_sg, ↓shO_sr, ↓shA_si, ↓shA_sg, ↓shA_sr, ↓pAs_0, ↓pAs_i, ↓pAs_r, stk_n, stk_i, stk_l, stk_r, List.nil_append, List.cons_append, true_and, and_true, true_or, or_true, Nat.zero_add, dp_s, Nat.reduceAdd, le8_0, le8_1, le8_2, le8_3, le8_4, le8_5, le8_6, le8_7, le8_8, Classical.not_not, aT40, aT41, aT42, aT44, aT54, aT58, aT59, rT54, rT58, rT59, reduceIte, Nat.reduceEqDiff, qn_42, qn_44, true_implies, not_true_eq_false, not_false_eq_true, false_implies, ↓shO_of h1.1.1.1]
    refine k22 (Q := (pm, s.md, ws)) h1 (r.ok hi) hp128 (by rw [List.length_cons] at hC; omega) (fun M2 h2 o2 => ⟨rfl, ?_⟩)
    have e : usN ws Cc p (nbA D.1 ws p) = usC s.ws Cc (plK s key) (nbS s.V (plK s key)) := by rw [hplk, r.2.2.2.1.us_, hnb]
    have h2 : CP M2 b D (pm, s.md, ws) (usN ws Cc p (nbA D.1 ws p)) s.L (im, s.I) s.T s.E (G, a, s.F.2) := h2
    rw [e] at h2
    have hle := usC_le s.ws Cc (plK s key) (nbS s.V (plK s key))
    have hb17 : nbS s.V (plK s key) ≤ 100 := by
      rw [hplk, ← hnb]
      have hb := bv_lt (Q := (pm, s.md, ws)) h1.rd (r.ok hi) hp128 (show 3 < 16 by omega)
      have hb : bv D.1 ws p 3 < 256 := hb
      unfold nbA lnA
      omega
    refine vc_X 20 _ _ _ _ _ _ _ ?_
    simp only [↓v83_0, ↓v83_1, ↓v83_4, ↓v83_7, ↓v83_8, ↓v83_11, ↓v83_14, ↓v83_15, ↓v83_16, ↓v83_19, ↓v83_22, ↓v83_25, ↓v83_26, ↓v83_29, ↓v83_30, ↓v83_33, ↓v83_36, ↓v83_37, ↓v83_38, ↓v83_39, ↓v83_40, ↓v83_43, ↓v83_44, ↓v83_45, ↓v83_46, ↓v83_47, ↓v83_48, ↓v83_51, ↓v83_52, ↓v83_54, ↓v83_57, ↓v83_58, ↓v83_59, ↓v83_62, ↓v83_63, ↓v83_66, ↓v83_67, ↓v83_68, ↓v83_71, ↓v83_74, ↓v83_77, ↓v83_80, ↓v83_81, ↓v83_84, ↓v83_85, ↓v83_88, ↓v83_91, ↓v83_94, ↓v83_97, ↓v83_98, ↓v83_101, ↓v83_102, ↓v83_105, ↓v83_108, ↓v83_109, ↓v83_112, ↓v83_113, ↓v83_114, ↓v83_115, ↓v83_116, ↓v83_117, ↓v83_120, ↓v83_122, ↓v83_124, ↓v83_125, ↓v83_128, ↓v83_130, ↓v83_131, ↓v83_132, ↓v83_135, ↓v83_137, ↓v83_138, ↓v83_139, ↓v83_142, ↓v83_145, ↓v83_147, ↓v83_148, ↓v83_149, ↓v83_151, ↓v83_153, ↓v83_154, ↓v83_157, ↓v83_159, ↓v83_161, ↓v83_164, ↓v83_165, ↓v83_166, ↓v83_169, ↓v83_171, ↓v83_172, ↓v83_175, ↓v83_178, ↓v83_181, ↓v83_182, ↓v83_185, ↓v83_186, ↓v83_187, ↓v83_190, ↓v83_193, ↓v83_194, ↓v83_196, ↓v83_197, ↓v83_200, ↓v83_201, ↓v83_204, ↓v83_205, ↓v83_207, ↓v83_208, ↓v83_211, ↓v83_212, ↓v83_215, ↓v83_216, ↓v83_217, ↓v83_220, ↓v83_221, ↓v83_222, ↓qI_c, ↓qL_c, ↓qR_c, ↓pA_o, ↓qC_i, ↓qC_r, ↓oA_s, ↓gI_0, ↓gI_1, ↓gI_2, ↓gI_3, ↓gI_4, ↓gI_5, ↓gI_6, ↓gI_7, ↓gI_8, ↓gI_9, ↓gI_10, ↓gR_0, ↓gR_1, ↓gR_2, ↓gR_3, ↓gR_4, ↓gR_5, ↓gR_6, ↓gR_7, ↓gR_8, ↓gR_9, ↓gR_10, ↓sL_0, ↓sL_1, ↓sL_2, ↓sL_3, ↓sL_4, ↓sL_5, ↓sL_6, ↓sL_7, ↓sL_8, ↓sL_9, ↓sL_10, ↓rrf_si, ↓rrf_sg, ↓shO_si, ↓shO_sg, ↓shO_sr, ↓shA_si, ↓shA_sg, ↓shA_sr, ↓pAs_0, ↓pAs_i, ↓pAs_r, stk_n, stk_i, stk_l, stk_r, List.nil_append, List.cons_append, true_and, and_true, true_or, or_true, Nat.zero_add, dp_s, Nat.reduceAdd, le8_0, le8_1, le8_2, le8_3, le8_4, le8_5, le8_6, le8_7, le8_8, Classical.not_not, aT40, aT41, aT42, aT44, aT54, aT58, aT59, rT54, rT58, rT59, reduceIte, Nat.reduceEqDiff, qn_42, qn_44, true_implies, not_true_eq_false, not_false_eq_true, false_implies, nI_1]
    refine ih (i + 1) M2 _ hd2 (by rw [List.length_cons] at hil; omega) h2 (fun j v hj => by rw [o2.2.2.2.2.2 (b + 276) (by simp)]; exact m1 j v hj) (by rw [List.length_cons] at hC; omega) (o1.trans o2 (fun _ h => h)) hk
