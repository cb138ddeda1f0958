/-! the reference: makeRecord -/
def LwR (ws : List Wm) (la : RecT) (lw : Option Nat) : Prop := (∀ w q, w ∈ ws → w.r = some q → (q.1 = la.1 ↔ lw = some w.n)) ∧ ∀ w, w ∈ ws → lw = some w.n → isRec w
theorem lw_ok {ws : List Wm} {la : RecT} {lw : Option Nat} (h : LwR ws la lw) : ∀ m, (∃ q, rwN ws la.1 = some q ∧ m = q) ↔ emD ws lw m = true := by
  intro m
  rw [emD_iff]
  unfold rwN
  constructor
  · rintro ⟨q, hq1, rfl⟩
    rw [Option.bind_eq_some_iff] at hq1
    obtain ⟨i, hi, hm⟩ := hq1
    obtain ⟨f1, -, -⟩ := fst_spec _ _ _ _ hi
    obtain ⟨w, z, hw, hz, hz1⟩ := rcM_iff.mp f1
    rw [hw] at hm
    have hm : w.n = m := by simpa using hm
    exact ⟨by rw [(h.1 w z (List.mem_of_getElem? hw) hz).mp hz1, hm], w, List.mem_of_getElem? hw, hm⟩
  · rintro ⟨h1, v, hv, hvn⟩
    obtain ⟨z, hz⟩ := h.2 v hv (by rw [hvn]; exact h1)
    obtain ⟨i, hi⟩ := List.mem_iff_getElem?.mp hv
    have hil := (List.getElem?_eq_some_iff.mp hi).1
    cases hf : fst_ (rcM ws la.1) 0 ws.length with
    | none =>
      have := fst_none _ _ _ hf i (by omega) (by omega)
      rw [rcM_iff.mpr ⟨v, z, hi, hz, (h.1 v z hv hz).mpr (by rw [hvn]; exact h1)⟩] at this
      cases this
    | some j =>
      obtain ⟨f1, -, -⟩ := fst_spec _ _ _ _ hf
      obtain ⟨w, z2, hw, hz2, hz1⟩ := rcM_iff.mp f1
      refine ⟨m, ?_, rfl⟩
      show (ws[j]?).map Wm.n = some m
      rw [hw]
      have := (h.1 w z2 (List.mem_of_getElem? hw) hz2).mp hz1
      rw [h1] at this
      cases this
      rfl
theorem LwR.app {ws nw : List Wm} {la : RecT} {lw : Option Nat} {md : Nat} (h : LwR ws la lw) (hl : ∀ n, lw = some n → n < md) (hn : ∀ w, w ∈ nw → w.r = none ∧ md ≤ w.n) : LwR (ws ++ nw) la lw := by
  refine ⟨fun w q hw hq => ?_, fun w hw hl2 => ?_⟩
  · rcases List.mem_append.mp hw with hw | hw
    · exact h.1 w q hw hq
    · rw [(hn w hw).1] at hq
      cases hq
  · rcases List.mem_append.mp hw with hw | hw
    · exact h.2 w hw hl2
    · have h1 := (hn w hw).2
      have h2 := hl _ hl2
      omega
theorem ChI.pw {ws : List Wm} {R la : RecT} (h : ChI ws R la) : ws.Pairwise (fun x y => ∀ a, x.r = some a → ∀ b, y.r = some b → a.1 < b.1) := by
  have h1 : ((ws.filterMap Wm.r).map Prod.fst).Pairwise (· < ·) := by rw [h.1]; exact List.pairwise_lt_range' _
  rw [List.pairwise_map, List.pairwise_filterMap] at h1
  exact h1
theorem On_.lwr {s : Ms} (o : On_ s) : LwR s.ws s.la s.lw := by
  obtain ⟨⟨h1, h2, h3, h4, h5⟩, h6, h7, h8, h9, h10⟩ := o
  refine ⟨fun w q hw hq => ?_, fun w hw hl => h7.2.2 w hw hl⟩
  obtain ⟨v, hv, rv, mv⟩ := max_ex isRec s.ws ⟨w, hw, q, hq⟩
  obtain ⟨l1, l2, l3⟩ := h7.1 v hv rv mv
  constructor
  · intro e
    have pw := h10.pw
    rw [List.pairwise_iff_getElem] at pw
    obtain ⟨i, hi, ei⟩ := List.mem_iff_getElem.mp hw
    obtain ⟨j, hj, ej⟩ := List.mem_iff_getElem.mp hv
    rcases Nat.lt_trichotomy i j with c | c | c
    · have := pw i j hi hj c q (by rw [ei]; exact hq) s.la (by rw [ej]; exact l2)
      omega
    · subst c
      rw [l1, ← ej, ei]
    · have := pw j i hj hi c s.la (by rw [ej]; exact l2) q (by rw [ei]; exact hq)
      omega
  · intro e
    rw [l1] at e
    have e : v.n = w.n := by simpa using e
    have := nb_inj h1 hv hw e
    rw [this, hq] at l2
    cases l2
    rfl
/-- the cells of the record at place w -/
def Rw_ (r w : Nat) (M M' : Mm) : Prop := Rf r (fun y => y = r + 11 ∨ y = r + 15) [10] M M' ∧ (∀ j, j ≠ w → M'.it (r + 11) j = M.it (r + 11) j) ∧ ∀ j, (j < 18 * w ∨ 18 * w + 18 ≤ j) → M'.it (r + 15) j = M.it (r + 15) j
theorem Rw_.rf_ {r w : Nat} {M : Mm} : Rw_ r w M M := ⟨Rf.rf_, fun _ _ => rfl, fun _ _ => rfl⟩
theorem Rw_.rec {r w i : Nat} {M M' : Mm} {x : Int32} (h : Rw_ r w M M') (hi : i < 18) : Rw_ r w M (M'.si (r + 15) (18 * w + i) x) := ⟨h.1.row (Or.inr rfl) (by omega), fun j hj => by rw [si_it, if_neg (by omega)]; exact h.2.1 j hj, fun j hj => by rw [si_it, if_neg (fun z => by omega)]; exact h.2.2 j hj⟩
theorem Rw_.tg {r w : Nat} {M M' : Mm} {x : Int32} (h : Rw_ r w M M') : Rw_ r w M (M'.si (r + 11) w x) := ⟨h.1.row (Or.inl rfl) (by omega), fun j hj => by rw [si_it, if_neg (fun z => hj z.2)]; exact h.2.1 j hj, fun j hj => by rw [si_it, if_neg (by omega)]; exact h.2.2 j hj⟩
theorem Rw_.fl {r w : Nat} {M M' : Mm} {x : Int32} (h : Rw_ r w M M') : Rw_ r w M (M'.si r 10 x) := ⟨h.1.fld (by simp), fun j hj => by rw [si_it, if_neg (by omega)]; exact h.2.1 j hj, fun j hj => by rw [si_it, if_neg (by omega)]; exact h.2.2 j hj⟩
theorem recA {d : Nat} {M : Mm} {k : mQ} {r w : Nat} {s : Ms} {z1 z2 z3 z4 : Option mL} (hs : RS M r) (hf : M.it r 10 = nI s.la.1 ∧ M.it r 11 = nI s.tb.length ∧ M.it r 12 = nI s.st ∧ M.it r 13 = nI s.mu) (hpt : RPt M (r + 4) s.pt) (h7 : RI M (r + 7) (s.tb.map Prod.fst)) (h3 : s.tb.length ≤ 3) (hz : ∀ z ∈ s.tb, z.1 < 128) (hw : w < 160) (hla : s.la.1 < 100000) (hk : ∀ M', Rw_ r w M M' → RcP M' (r + 15) (18 * w) (nwR s) → M'.it r 10 = nI (s.la.1 + 1) → M'.it (r + 11) w = nI (128 + (s.la.1 + 1) % 2) → X d 144 128 [some (.inr (some r)), z1, some (.inl (nI w)), some (.inl (nI (18 * w))), some (.inl (nI 3))] [] M' k) : X d 144 13 [some (.inr (some r)), z1, z2, z3, z4] [.inl (nI w)] M k := by
  obtain ⟨f10, f11, f12, f13⟩ := hf
  have e18 : (18 : Int32) * nI w = nI (18 * w) := by rw [n_18, pk_mul]
  have o0 : Rw_ r w M M := Rw_.rf_
  generalize hM1 : M.si r 10 (nI (s.la.1 + 1)) = M1
  have o1 : Rw_ r w M M1 := by rw [← hM1]; exact o0.fl
  have s1 := hs.oi o1.1.1
  have g1 : M1.it r 10 = nI (s.la.1 + 1) := by rw [← hM1, si_it, if_pos ⟨rfl, rfl⟩]
  have er : (128 : Int32) + (nI (s.la.1 + 1) - nI (s.la.1 + 1) / 2 * 2) = nI (128 + (s.la.1 + 1) % 2) := by
    rw [n_2, pk_rem (a := s.la.1 + 1) (d := 2) (by omega) (by omega) (by omega), n_128, nI_add]
  generalize hM2 : M1.si (r + 11) w (nI (128 + (s.la.1 + 1) % 2)) = M2
  have o2 : Rw_ r w M M2 := by rw [← hM2]; exact o1.tg
  have s2 := hs.oi o2.1.1
  have g2 : M2.it r 10 = nI (s.la.1 + 1) := by rw [← hM2, si_it, if_neg (by omega)]; exact g1
  refine vc_X 20 _ _ _ _ _ _ _ ?_
  simp only [↓v144_0, ↓v144_1, ↓v144_2, ↓v144_5, ↓v144_8, ↓v144_9, ↓v144_10, ↓v144_13, ↓v144_14, ↓v144_15, ↓v144_16, ↓v144_19, ↓v144_20, ↓v144_21, ↓v144_24, ↓v144_25, ↓v144_28, ↓v144_29, ↓v144_32, ↓v144_33, ↓v144_36, ↓v144_37, ↓v144_38, ↓v144_39, ↓v144_40, ↓v144_42, ↓v144_43, ↓v144_44, ↓v144_45, ↓v144_46, ↓v144_49, ↓v144_50, ↓v144_51, ↓v144_54, ↓v144_55, ↓v144_56, ↓v144_59, ↓v144_60, ↓v144_61, ↓v144_62, ↓v144_63, ↓v144_66, ↓v144_67, ↓v144_68, ↓v144_71, ↓v144_72, ↓v144_73, ↓v144_74, ↓v144_75, ↓v144_78, ↓v144_79, ↓v144_80, ↓v144_83, ↓v144_84, ↓v144_85, ↓v144_86, ↓v144_87, ↓v144_90, ↓v144_91, ↓v144_92, ↓v144_94, ↓v144_96, ↓v144_98, ↓v144_101, ↓v144_102, ↓v144_105, ↓v144_106, ↓v144_107, ↓v144_108, ↓v144_110, ↓v144_111, ↓v144_112, ↓v144_115, ↓v144_117, ↓v144_118, ↓v144_119, ↓v144_122, ↓v144_125, ↓v144_126, ↓v144_128, ↓v144_130, ↓v144_131, ↓v144_134, ↓v144_135, ↓v144_138, ↓v144_139, ↓v144_141, ↓v144_142, ↓v144_143, ↓v144_145, ↓v144_146, ↓v144_147, ↓v144_149, ↓v144_150, ↓v144_153, ↓v144_156, ↓v144_157, ↓v144_160, ↓v144_162, ↓v144_163, ↓v144_165, ↓v144_166, ↓v144_169, ↓v144_170, ↓v144_171, ↓v144_172, ↓v144_175, ↓v144_176, ↓v144_178, ↓v144_179, ↓v144_180, ↓v144_182, ↓v144_183, ↓v144_184, ↓v144_186, ↓v144_187, ↓v144_190, ↓v144_193, ↓v144_194, ↓v144_197, ↓v144_199, ↓v144_200, ↓v144_202, ↓v144_203, ↓v144_206, ↓v144_207, ↓v144_208, ↓v144_211, ↓v144_214, ↓v144_215, ↓v144_216, ↓v144_219, ↓v144_220, ↓v144_221, ↓v144_222, ↓v144_225, ↓v144_226, ↓v144_229, ↓v144_231, ↓v144_233, ↓v144_234, ↓v144_237, ↓v144_240, ↓v144_241, ↓v144_242, ↓v144_243, ↓v144_246, ↓v144_248, ↓v144_249, ↓v144_252, ↓v144_255, ↓v144_258, ↓v144_259, ↓qI_c, ↓qL_c, ↓qR_c, ↓pA_o, ↓qC_i, ↓qC_r, ↓oA_s, ↓gI_0, ↓gI_1, ↓gI_2, ↓gI_3, ↓gI_4, ↓gI_5, ↓gI_6, ↓gI_7, ↓gI_8, ↓gI_9, ↓gI_10, ↓gR_0, ↓gR_1, ↓gR_2, ↓gR_3, ↓gR_4, ↓gR_5, ↓gR_6, ↓gR_7, ↓gR_8, ↓gR_9, ↓gR_10, ↓sL_0, ↓sL_1, ↓sL_2, ↓sL_3, ↓sL_4, ↓sL_5, ↓sL_6, ↓sL_7, ↓sL_8, ↓sL_9, ↓sL_10, ↓rrf_si, ↓rrf_sg, ↓shO_si, ↓shO_sg, ↓shO_sr, ↓shA_si, ↓shA_sg, ↓shA_sr, ↓pAs_0, ↓pAs_i, ↓pAs_r, stk_n, stk_i, stk_l, stk_r, List.nil_append, List.cons_append, true_and, and_true, true_or, or_true, Nat.zero_add, dp_s, Nat.reduceAdd, le8_0, le8_1, le8_2, le8_3, le8_4, le8_5, le8_6, le8_7, le8_8, Classical.not_not, aT40, aT41, aT42, aT44, aT54, aT58, aT59, rT54, rT58, rT59, reduceIte, Nat.reduceEqDiff, qn_42, qn_44, true_implies, not_true_eq_false, not_false_eq_true, false_implies, ↓shO_of hs.1.1, f10, nI_1, hM1, ↓rrf_of hs.2.1.2.2.2.2.1, g1, er, ↓shA_of hs.2.2.2.2.1.2.2.1, nC (show w < 2147483648 by omega), hM2]
  refine ⟨by decide, inB_n (by omega) (by omega), ?_⟩
  have v0 := g2
  generalize hM3 : M2.si (r + 15) (18 * w) (nI (s.la.1 + 1)) = M3
  have o3 : Rw_ r w M M3 := by rw [← hM3]; exact o2.rec (i := 0) (by omega)
  have s3 := hs.oi o3.1.1
  refine vc_X 7 _ _ _ _ _ _ _ ?_
  simp only [↓v144_0, ↓v144_1, ↓v144_2, ↓v144_5, ↓v144_8, ↓v144_9, ↓v144_10, ↓v144_13, ↓v144_14, ↓v144_15, ↓v144_16, ↓v144_19, ↓v144_20, ↓v144_21, ↓v144_24, ↓v144_25, ↓v144_28, ↓v144_29, ↓v144_32, ↓v144_33, ↓v144_36, ↓v144_37, ↓v144_38, ↓v144_39, ↓v144_40, ↓v144_42, ↓v144_43, ↓v144_44, ↓v144_45, ↓v144_46, ↓v144_49, ↓v144_50, ↓v144_51, ↓v144_54, ↓v144_55, ↓v144_56, ↓v144_59, ↓v144_60, ↓v144_61, ↓v144_62, ↓v144_63, ↓v144_66, ↓v144_67, ↓v144_68, ↓v144_71, ↓v144_72, ↓v144_73, ↓v144_74, ↓v144_75, ↓v144_78, ↓v144_79, ↓v144_80, ↓v144_83, ↓v144_84, ↓v144_85, ↓v144_86, ↓v144_87, ↓v144_90, ↓v144_91, ↓v144_92, ↓v144_94, ↓v144_96, ↓v144_98, ↓v144_101, ↓v144_102, ↓v144_105, ↓v144_106, ↓v144_107, ↓v144_108, ↓v144_110, ↓v144_111, ↓v144_112, ↓v144_115, ↓v144_117, ↓v144_118, ↓v144_119, ↓v144_122, ↓v144_125, ↓v144_126, ↓v144_128, ↓v144_130, ↓v144_131, ↓v144_134, ↓v144_135, ↓v144_138, ↓v144_139, ↓v144_141, ↓v144_142, ↓v144_143, ↓v144_145, ↓v144_146, ↓v144_147, ↓v144_149, ↓v144_150, ↓v144_153, ↓v144_156, ↓v144_157, ↓v144_160, ↓v144_162, ↓v144_163, ↓v144_165, ↓v144_166, ↓v144_169, ↓v144_170, ↓v144_171, ↓v144_172, ↓v144_175, ↓v144_176, ↓v144_178, ↓v144_179, ↓v144_180, ↓v144_182, ↓v144_183, ↓v144_184, ↓v144_186, ↓v144_187, ↓v144_190, ↓v144_193, ↓v144_194, ↓v144_197, ↓v144_199, ↓v144_200, ↓v144_202, ↓v144_203, ↓v144_206, ↓v144_207, ↓v144_208, ↓v144_211, ↓v144_214, ↓v144_215, ↓v144_216, ↓v144_219, ↓v144_220, ↓v144_221, ↓v144_222, ↓v144_225, ↓v144_226, ↓v144_229, ↓v144_231, ↓v144_233, ↓v144_234, ↓v144_237, ↓v144_240, ↓v144_241, ↓v144_242, ↓v144_243, ↓v144_246, ↓v144_248, ↓v144_249, ↓v144_252, ↓v144_255, ↓v144_258, ↓v144_259, ↓qI_c, ↓qL_c, ↓qR_c, ↓pA_o, ↓qC_i, ↓qC_r, ↓oA_s, ↓gI_0, ↓gI_1, ↓gI_2, ↓gI_3, ↓gI_4, ↓gI_5, ↓gI_6, ↓gI_7, ↓gI_8, ↓gI_9, ↓gI_10, ↓gR_0, ↓gR_1, ↓gR_2, ↓gR_3, ↓gR_4, ↓gR_5, ↓gR_6, ↓gR_7, ↓gR_8, ↓gR_9, ↓gR_10, ↓sL_0, ↓sL_1, ↓sL_2, ↓sL_3, ↓sL_4, ↓sL_5, ↓sL_6, ↓sL_7, ↓sL_8, ↓sL_9, ↓sL_10, ↓rrf_si, ↓rrf_sg, ↓shO_si, ↓shO_sg, ↓shO_sr, ↓shA_si, ↓shA_sg, ↓shA_sr, ↓pAs_0, ↓pAs_i, ↓pAs_r, stk_n, stk_i, stk_l, stk_r, List.nil_append, List.cons_append, true_and, and_true, true_or, or_true, Nat.zero_add, dp_s, Nat.reduceAdd, le8_0, le8_1, le8_2, le8_3, le8_4, le8_5, le8_6, le8_7, le8_8, Classical.not_not, aT40, aT41, aT42, aT44, aT54, aT58, aT59, rT54, rT58, rT59, reduceIte, Nat.reduceEqDiff, qn_42, qn_44, true_implies, not_true_eq_false, not_false_eq_true, false_implies, ↓shO_of s2.1.1, ↓rrf_of s2.2.2.1.1, v0, ↓shA_of s2.2.2.2.2.1.2.2.2.2.2.2.1, e18, nC (show 18 * w < 2147483648 by omega), hM3]
  refine ⟨inB_n (by omega) (by omega), ?_⟩
  have v1 : M3.it r 13 = nI s.mu := by rw [o3.1.2 13 (by simp)]; exact f13
  generalize hM4 : M3.si (r + 15) (18 * w + 1) (nI s.mu) = M4
  have o4 : Rw_ r w M M4 := by rw [← hM4]; exact o3.rec (i := 1) (by omega)
  have s4 := hs.oi o4.1.1
  have ei1 : nI (18 * w) + 1 = nI (18 * w + 1) := by rw [n_1, nI_add]
  refine vc_X 8 _ _ _ _ _ _ _ ?_
  simp only [↓v144_0, ↓v144_1, ↓v144_2, ↓v144_5, ↓v144_8, ↓v144_9, ↓v144_10, ↓v144_13, ↓v144_14, ↓v144_15, ↓v144_16, ↓v144_19, ↓v144_20, ↓v144_21, ↓v144_24, ↓v144_25, ↓v144_28, ↓v144_29, ↓v144_32, ↓v144_33, ↓v144_36, ↓v144_37, ↓v144_38, ↓v144_39, ↓v144_40, ↓v144_42, ↓v144_43, ↓v144_44, ↓v144_45, ↓v144_46, ↓v144_49, ↓v144_50, ↓v144_51, ↓v144_54, ↓v144_55, ↓v144_56, ↓v144_59, ↓v144_60, ↓v144_61, ↓v144_62, ↓v144_63, ↓v144_66, ↓v144_67, ↓v144_68, ↓v144_71, ↓v144_72, ↓v144_73, ↓v144_74, ↓v144_75, ↓v144_78, ↓v144_79, ↓v144_80, ↓v144_83, ↓v144_84, ↓v144_85, ↓v144_86, ↓v144_87, ↓v144_90, ↓v144_91, ↓v144_92, ↓v144_94, ↓v144_96, ↓v144_98, ↓v144_101, ↓v144_102, ↓v144_105, ↓v144_106, ↓v144_107, ↓v144_108, ↓v144_110, ↓v144_111, ↓v144_112, ↓v144_115, ↓v144_117, ↓v144_118, ↓v144_119, ↓v144_122, ↓v144_125, ↓v144_126, ↓v144_128, ↓v144_130, ↓v144_131, ↓v144_134, ↓v144_135, ↓v144_138, ↓v144_139, ↓v144_141, ↓v144_142, ↓v144_143, ↓v144_145, ↓v144_146, ↓v144_147, ↓v144_149, ↓v144_150, ↓v144_153, ↓v144_156, ↓v144_157, ↓v144_160, ↓v144_162, ↓v144_163, ↓v144_165, ↓v144_166, ↓v144_169, ↓v144_170, ↓v144_171, ↓v144_172, ↓v144_175, ↓v144_176, ↓v144_178, ↓v144_179, ↓v144_180, ↓v144_182, ↓v144_183, ↓v144_184, ↓v144_186, ↓v144_187, ↓v144_190, ↓v144_193, ↓v144_194, ↓v144_197, ↓v144_199, ↓v144_200, ↓v144_202, ↓v144_203, ↓v144_206, ↓v144_207, ↓v144_208, ↓v144_211, ↓v144_214, ↓v144_215, ↓v144_216, ↓v144_219, ↓v144_220, ↓v144_221, ↓v144_222, ↓v144_225, ↓v144_226, ↓v144_229, ↓v144_231, ↓v144_233, ↓v144_234, ↓v144_237, ↓v144_240, ↓v144_241, ↓v144_242, ↓v144_243, ↓v144_246, ↓v144_248, ↓v144_249, ↓v144_252, ↓v144_255, ↓v144_258, ↓v144_259, ↓qI_c, ↓qL_c, ↓qR_c, ↓pA_o, ↓qC_i, ↓qC_r, ↓oA_s, ↓gI_0, ↓gI_1, ↓gI_2, ↓gI_3, ↓gI_4, ↓gI_5, ↓gI_6, ↓gI_7, ↓gI_8, ↓gI_9, ↓gI_10, ↓gR_0, ↓gR_1, ↓gR_2, ↓gR_3, ↓gR_4, ↓gR_5, ↓gR_6, ↓gR_7, ↓gR_8, ↓gR_9, ↓gR_10, ↓sL_0, ↓sL_1, ↓sL_2, ↓sL_3, ↓sL_4, ↓sL_5, ↓sL_6, ↓sL_7, ↓sL_8, ↓sL_9, ↓sL_10, ↓rrf_si, ↓rrf_sg, ↓shO_si, ↓shO_sg, ↓shO_sr, ↓shA_si, ↓shA_sg, ↓shA_sr, ↓pAs_0, ↓pAs_i, ↓pAs_r, stk_n, stk_i, stk_l, stk_r, List.nil_append, List.cons_append, true_and, and_true, true_or, or_true, Nat.zero_add, dp_s, Nat.reduceAdd, le8_0, le8_1, le8_2, le8_3, le8_4, le8_5, le8_6, le8_7, le8_8, Classical.not_not, aT40, aT41, aT42, aT44, aT54, aT58, aT59, rT54, rT58, rT59, reduceIte, Nat.reduceEqDiff, qn_42, qn_44, true_implies, not_true_eq_false, not_false_eq_true, false_implies, ↓shO_of s3.1.1, ↓rrf_of s3.2.2.1.1, v1, ↓shA_of s3.2.2.2.2.1.2.2.2.2.2.2.1, ei1, nC (show 18 * w + 1 < 2147483648 by omega), hM4]
  refine ⟨inB_n (by omega) (by omega), ?_⟩
  have v2 : M4.it r 12 = nI s.st := by rw [o4.1.2 12 (by simp)]; exact f12
  generalize hM5 : M4.si (r + 15) (18 * w + 2) (nI s.st) = M5
  have o5 : Rw_ r w M M5 := by rw [← hM5]; exact o4.rec (i := 2) (by omega)
  have s5 := hs.oi o5.1.1
  have ei2 : nI (18 * w) + 2 = nI (18 * w + 2) := by rw [n_2, nI_add]
  refine vc_X 8 _ _ _ _ _ _ _ ?_
  simp only [↓v144_0, ↓v144_1, ↓v144_2, ↓v144_5, ↓v144_8, ↓v144_9, ↓v144_10, ↓v144_13, ↓v144_14, ↓v144_15, ↓v144_16, ↓v144_19, ↓v144_20, ↓v144_21, ↓v144_24, ↓v144_25, ↓v144_28, ↓v144_29, ↓v144_32, ↓v144_33, ↓v144_36, ↓v144_37, ↓v144_38, ↓v144_39, ↓v144_40, ↓v144_42, ↓v144_43, ↓v144_44, ↓v144_45, ↓v144_46, ↓v144_49, ↓v144_50, ↓v144_51, ↓v144_54, ↓v144_55, ↓v144_56, ↓v144_59, ↓v144_60, ↓v144_61, ↓v144_62, ↓v144_63, ↓v144_66, ↓v144_67, ↓v144_68, ↓v144_71, ↓v144_72, ↓v144_73, ↓v144_74, ↓v144_75, ↓v144_78, ↓v144_79, ↓v144_80, ↓v144_83, ↓v144_84, ↓v144_85, ↓v144_86, ↓v144_87, ↓v144_90, ↓v144_91, ↓v144_92, ↓v144_94, ↓v144_96, ↓v144_98, ↓v144_101, ↓v144_102, ↓v144_105, ↓v144_106, ↓v144_107, ↓v144_108, ↓v144_110, ↓v144_111, ↓v144_112, ↓v144_115, ↓v144_117, ↓v144_118, ↓v144_119, ↓v144_122, ↓v144_125, ↓v144_126, ↓v144_128, ↓v144_130, ↓v144_131, ↓v144_134, ↓v144_135, ↓v144_138, ↓v144_139, ↓v144_141, ↓v144_142, ↓v144_143, ↓v144_145, ↓v144_146, ↓v144_147, ↓v144_149, ↓v144_150, ↓v144_153, ↓v144_156, ↓v144_157, ↓v144_160, ↓v144_162, ↓v144_163, ↓v144_165, ↓v144_166, ↓v144_169, ↓v144_170, ↓v144_171, ↓v144_172, ↓v144_175, ↓v144_176, ↓v144_178, ↓v144_179, ↓v144_180, ↓v144_182, ↓v144_183, ↓v144_184, ↓v144_186, ↓v144_187, ↓v144_190, ↓v144_193, ↓v144_194, ↓v144_197, ↓v144_199, ↓v144_200, ↓v144_202, ↓v144_203, ↓v144_206, ↓v144_207, ↓v144_208, ↓v144_211, ↓v144_214, ↓v144_215, ↓v144_216, ↓v144_219, ↓v144_220, ↓v144_221, ↓v144_222, ↓v144_225, ↓v144_226, ↓v144_229, ↓v144_231, ↓v144_233, ↓v144_234, ↓v144_237, ↓v144_240, ↓v144_241, ↓v144_242, ↓v144_243, ↓v144_246, ↓v144_248, ↓v144_249, ↓v144_252, ↓v144_255, ↓v144_258, ↓v144_259, ↓qI_c, ↓qL_c, ↓qR_c, ↓pA_o, ↓qC_i, ↓qC_r, ↓oA_s, ↓gI_0, ↓gI_1, ↓gI_2, ↓gI_3, ↓gI_4, ↓gI_5, ↓gI_6, ↓gI_7, ↓gI_8, ↓gI_9, ↓gI_10, ↓gR_0, ↓gR_1, ↓gR_2, ↓gR_3, ↓gR_4, ↓gR_5, ↓gR_6, ↓gR_7, ↓gR_8, ↓gR_9, ↓gR_10, ↓sL_0, ↓sL_1, ↓sL_2, ↓sL_3, ↓sL_4, ↓sL_5, ↓sL_6, ↓sL_7, ↓sL_8, ↓sL_9, ↓sL_10, ↓rrf_si, ↓rrf_sg, ↓shO_si, ↓shO_sg, ↓shO_sr, ↓shA_si, ↓shA_sg, ↓shA_sr, ↓pAs_0, ↓pAs_i, ↓pAs_r, stk_n, stk_i, stk_l, stk_r, List.nil_append, List.cons_append, true_and, and_true, true_or, or_true, Nat.zero_add, dp_s, Nat.reduceAdd, le8_0, le8_1, le8_2, le8_3, le8_4, le8_5, le8_6, le8_7, le8_8, Classical.not_not, aT40, aT41, aT42, aT44, aT54, aT58, aT59, rT54, rT58, rT59, reduceIte, Nat.reduceEqDiff, qn_42, qn_44, true_implies, not_true_eq_false, not_false_eq_true, false_implies, ↓shO_of s4.1.1, ↓rrf_of s4.2.2.1.1, v2, ↓shA_of s4.2.2.2.2.1.2.2.2.2.2.2.1, ei2, nC (show 18 * w + 2 < 2147483648 by omega), hM5]
  refine ⟨inB_n (by omega) (by omega), ?_⟩
  have v3 : M5.it r 11 = nI s.tb.length := by rw [o5.1.2 11 (by simp)]; exact f11
  generalize hM6 : M5.si (r + 15) (18 * w + 3) (nI s.tb.length) = M6
  have o6 : Rw_ r w M M6 := by rw [← hM6]; exact o5.rec (i := 3) (by omega)
  have s6 := hs.oi o6.1.1
  have ei3 : nI (18 * w) + 3 = nI (18 * w + 3) := by rw [n_3, nI_add]
  refine vc_X 8 _ _ _ _ _ _ _ ?_
  simp only [↓v144_0, ↓v144_1, ↓v144_2, ↓v144_5, ↓v144_8, ↓v144_9, ↓v144_10, ↓v144_13, ↓v144_14, ↓v144_15, ↓v144_16, ↓v144_19, ↓v144_20, ↓v144_21, ↓v144_24, ↓v144_25, ↓v144_28, ↓v144_29, ↓v144_32, ↓v144_33, ↓v144_36, ↓v144_37, ↓v144_38, ↓v144_39, ↓v144_40, ↓v144_42, ↓v144_43, ↓v144_44, ↓v144_45, ↓v144_46, ↓v144_49, ↓v144_50, ↓v144_51, ↓v144_54, ↓v144_55, ↓v144_56, ↓v144_59, ↓v144_60, ↓v144_61, ↓v144_62, ↓v144_63, ↓v144_66, ↓v144_67, ↓v144_68, ↓v144_71, ↓v144_72, ↓v144_73, ↓v144_74, ↓v144_75, ↓v144_78, ↓v144_79, ↓v144_80, ↓v144_83, ↓v144_84, ↓v144_85, ↓v144_86, ↓v144_87, ↓v144_90, ↓v144_91, ↓v144_92, ↓v144_94, ↓v144_96, ↓v144_98, ↓v144_101, ↓v144_102, ↓v144_105, ↓v144_106, ↓v144_107, ↓v144_108, ↓v144_110, ↓v144_111, ↓v144_112, ↓v144_115, ↓v144_117, ↓v144_118, ↓v144_119, ↓v144_122, ↓v144_125, ↓v144_126, ↓v144_128, ↓v144_130, ↓v144_131, ↓v144_134, ↓v144_135, ↓v144_138, ↓v144_139, ↓v144_141, ↓v144_142, ↓v144_143, ↓v144_145, ↓v144_146, ↓v144_147, ↓v144_149, ↓v144_150, ↓v144_153, ↓v144_156, ↓v144_157, ↓v144_160, ↓v144_162, ↓v144_163, ↓v144_165, ↓v144_166, ↓v144_169, ↓v144_170, ↓v144_171, ↓v144_172, ↓v144_175, ↓v144_176, ↓v144_178, ↓v144_179, ↓v144_180, ↓v144_182, ↓v144_183, ↓v144_184, ↓v144_186, ↓v144_187, ↓v144_190, ↓v144_193, ↓v144_194, ↓v144_197, ↓v144_199, ↓v144_200, ↓v144_202, ↓v144_203, ↓v144_206, ↓v144_207, ↓v144_208, ↓v144_211, ↓v144_214, ↓v144_215, ↓v144_216, ↓v144_219, ↓v144_220, ↓v144_221, ↓v144_222, ↓v144_225, ↓v144_226, ↓v144_229, ↓v144_231, ↓v144_233, ↓v144_234, ↓v144_237, ↓v144_240, ↓v144_241, ↓v144_242, ↓v144_243, ↓v144_246, ↓v144_248, ↓v144_249, ↓v144_252, ↓v144_255, ↓v144_258, ↓v144_259, ↓qI_c, ↓qL_c, ↓qR_c, ↓pA_o, ↓qC_i, ↓qC_r, ↓oA_s, ↓gI_0, ↓gI_1, ↓gI_2, ↓gI_3, ↓gI_4, ↓gI_5, ↓gI_6, ↓gI_7, ↓gI_8, ↓gI_9, ↓gI_10, ↓gR_0, ↓gR_1, ↓gR_2, ↓gR_3, ↓gR_4, ↓gR_5, ↓gR_6, ↓gR_7, ↓gR_8, ↓gR_9, ↓gR_10, ↓sL_0, ↓sL_1, ↓sL_2, ↓sL_3, ↓sL_4, ↓sL_5, ↓sL_6, ↓sL_7, ↓sL_8, ↓sL_9, ↓sL_10, ↓rrf_si, ↓rrf_sg, ↓shO_si, ↓shO_sg, ↓shO_sr, ↓shA_si, ↓shA_sg, ↓shA_sr, ↓pAs_0, ↓pAs_i, ↓pAs_r, stk_n, stk_i, stk_l, stk_r, List.nil_append, List.cons_append, true_and, and_true, true_or, or_true, Nat.zero_add, dp_s, Nat.reduceAdd, le8_0, le8_1, le8_2, le8_3, le8_4, le8_5, le8_6, le8_7, le8_8, Classical.not_not, aT40, aT41, aT42, aT44, aT54, aT58, aT59, rT54, rT58, rT59, reduceIte, Nat.reduceEqDiff, qn_42, qn_44, true_implies, not_true_eq_false, not_false_eq_true, false_implies, ↓shO_of s5.1.1, ↓rrf_of s5.2.2.1.1, v3, ↓shA_of s5.2.2.2.2.1.2.2.2.2.2.2.1, ei3, nC (show 18 * w + 3 < 2147483648 by omega), hM6]
  refine ⟨inB_n (by omega) (by omega), ?_⟩
  have q0 : M6.it (r + 15) (18 * w) = nI (s.la.1 + 1) := by rw [← hM6, si_it, if_neg (fun z => by omega), ← hM5, si_it, if_neg (fun z => by omega), ← hM4, si_it, if_neg (fun z => by omega), ← hM3, si_it, if_pos ⟨rfl, rfl⟩]
  have q1 : M6.it (r + 15) (18 * w + 1) = nI s.mu := by rw [← hM6, si_it, if_neg (fun z => by omega), ← hM5, si_it, if_neg (fun z => by omega), ← hM4, si_it, if_pos ⟨rfl, rfl⟩]
  have q2 : M6.it (r + 15) (18 * w + 2) = nI s.st := by rw [← hM6, si_it, if_neg (fun z => by omega), ← hM5, si_it, if_pos ⟨rfl, rfl⟩]
  have q3 : M6.it (r + 15) (18 * w + 3) = nI s.tb.length := by rw [← hM6, si_it, if_pos ⟨rfl, rfl⟩]
  have z10 : M6.it r 10 = nI (s.la.1 + 1) := by rw [← hM6, si_it, if_neg (by omega), ← hM5, si_it, if_neg (by omega), ← hM4, si_it, if_neg (by omega), ← hM3, si_it, if_neg (by omega)]; exact g2
  have z11 : M6.it (r + 11) w = nI (128 + (s.la.1 + 1) % 2) := by rw [← hM6, si_it, if_neg (by omega), ← hM5, si_it, if_neg (by omega), ← hM4, si_it, if_neg (by omega), ← hM3, si_it, if_neg (by omega), ← hM2, si_it, if_pos ⟨rfl, rfl⟩]
  clear hM1 hM2 hM3 hM4 hM5 hM6 o0 o1 o2 o3 o4 o5 v0 v1 v2 v3 g1 g2
  -- the tables
  have lopT : ∀ (m t : Nat) (M7 : Mm), t + m = 3 → Rw_ r w M M7 → Oi (· = r + 15) M6 M7 → (∀ i, i < 4 → M7.it (r + 15) (18 * w + i) = M6.it (r + 15) (18 * w + i)) → (∀ e, e < 8 → M7.it (r + 15) (18 * w + 4 + e) = nI (s.pt e)) → (∀ u v, u < t → (s.tb.map Prod.fst)[u]? = some v → M7.it (r + 15) (18 * w + 12 + 2 * u) = nI (v / 16) ∧ M7.it (r + 15) (18 * w + 13 + 2 * u) = nI (v % 16)) → X d 144 128 [some (.inr (some r)), z1, some (.inl (nI w)), some (.inl (nI (18 * w))), some (.inl (nI t))] [] M7 k := by
    intro m
    induction m with
    | zero =>
      intro t M7 ht o7 i7 a b c
      have e : t = 3 := by omega
      subst e
      refine hk M7 o7 ⟨?_, ?_, ?_, ?_, b, fun u v hv => ?_⟩ (by rw [i7.at_ (by omega)]; exact z10) (by rw [i7.at_ (by omega)]; exact z11)
      · exact (a 0 (by omega)).trans q0
      · rw [a 1 (by omega)]; exact q1
      · rw [a 2 (by omega)]; exact q2
      · rw [a 3 (by omega), q3]
        show _ = nI (s.tb.map Prod.fst).length
        rw [List.length_map]
      · have hul := (List.getElem?_eq_some_iff.mp hv).1
        have hul : u < (s.tb.map Prod.fst).length := hul
        rw [List.length_map] at hul
        exact ⟨by omega, c u v (by omega) hv⟩
    | succ m ih =>
      intro t M7 ht o7 i7 a b c
      have s7 := hs.oi o7.1.1
      have g11 : M7.it r 11 = nI s.tb.length := by rw [o7.1.2 11 (by simp)]; exact f11
      have x1 : nI (18 * w) + 12 + 2 * nI t = nI (18 * w + 12 + 2 * t) := by rw [n_12, n_2, nI_add, pk_mul, nI_add]
      have x2 : nI (18 * w) + 13 + 2 * nI t = nI (18 * w + 13 + 2 * t) := by rw [n_13, n_2, nI_add, pk_mul, nI_add]
      have fin : ∀ v1 v2 : Nat, (∀ v, (s.tb.map Prod.fst)[t]? = some v → v1 = v / 16 ∧ v2 = v % 16) → X d 144 128 [some (.inr (some r)), z1, some (.inl (nI w)), some (.inl (nI (18 * w))), some (.inl (nI (t + 1)))] [] ((M7.si (r + 15) (18 * w + 12 + 2 * t) (nI v1)).si (r + 15) (18 * w + 13 + 2 * t) (nI v2)) k := by
        intro v1 v2 hv
        have p1 : 18 * w + 12 + 2 * t = 18 * w + (12 + 2 * t) := by omega
        have p2 : 18 * w + 13 + 2 * t = 18 * w + (13 + 2 * t) := by omega
        refine ih (t + 1) _ (by omega) ?_ ((i7.i rfl).i rfl) (fun i hi => ?_) (fun e he => ?_) (fun u v hu hv2 => ?_)
        · rw [p1, p2]
          exact (o7.rec (by omega)).rec (by omega)
        · rw [si_it, if_neg (fun z => by omega), si_it, if_neg (fun z => by omega)]; exact a i hi
        · rw [si_it, if_neg (fun z => by omega), si_it, if_neg (fun z => by omega)]; exact b e he
        · by_cases cu : u = t
          · subst cu
            obtain ⟨y1, y2⟩ := hv v hv2
            rw [si_it, if_neg (fun z => by omega), si_it, if_pos ⟨rfl, rfl⟩, si_it, if_pos ⟨rfl, rfl⟩, y1, y2]
            exact ⟨rfl, rfl⟩
          · rw [si_it, if_neg (fun z => by omega), si_it, if_neg (fun z => by omega), si_it, if_neg (fun z => by omega), si_it, if_neg (fun z => by omega)]
            exact c u v (by omega) hv2
      by_cases ct : t < s.tb.length
      · obtain ⟨v, hx⟩ : ∃ v, (s.tb.map Prod.fst)[t]? = some v := ⟨_, List.getElem?_eq_getElem (by rw [List.length_map]; exact ct)⟩
        have hv : v < 128 := by
          obtain ⟨z, hz1, hz2⟩ := List.mem_map.mp (List.mem_of_getElem? hx)
          have := hz z hz1
          omega
        have g7 : M7.it (r + 7) t = nI v := by rw [o7.1.at_ (by omega) (by omega)]; exact h7 t v hx
        have d1 : nI v / 16 = nI (v / 16) := by rw [n_16, pk_div (by omega) (by omega) (by omega)]
        have d2 : nI v - nI (v / 16) * 16 = nI (v % 16) := by
          have := pk_rem (a := v) (d := 16) (by omega) (by omega) (by omega)
          rw [pk_div (by omega) (by omega) (by omega)] at this
          exact this
        have fin1 := fin (v / 16) (v % 16) (fun v2 hv2 => by rw [hx] at hv2; cases hv2; exact ⟨rfl, rfl⟩)
        generalize hM8 : M7.si (r + 15) (18 * w + 12 + 2 * t) (nI (v / 16)) = M8 at fin1
        have k11 : M8.it r 11 = nI s.tb.length := by rw [← hM8, si_it, if_neg (by omega)]; exact g11
        have k7 : M8.it (r + 7) t = nI v := by rw [← hM8, si_it, if_neg (by omega)]; exact g7
        refine vc_X 40 _ _ _ _ _ _ _ ?_
        simp only [↓v144_0, ↓v144_1, ↓v144_2, ↓v144_5, ↓v144_8, ↓v144_9, ↓v144_10, ↓v144_13, ↓v144_14, ↓v144_15, ↓v144_16, ↓v144_19, ↓v144_20, ↓v144_21, ↓v144_24, ↓v144_25, ↓v144_28, ↓v144_29, ↓v144_32, ↓v144_33, ↓v144_36, ↓v144_37, ↓v144_38, ↓v144_39, ↓v144_40, ↓v144_42, ↓v144_43, ↓v144_44, ↓v144_45, ↓v144_46, ↓v144_49, ↓v144_50, ↓v144_51, ↓v144_54, ↓v144_55, ↓v144_56, ↓v144_59, ↓v144_60, ↓v144_61, ↓v144_62, ↓v144_63, ↓v144_66, ↓v144_67, ↓v144_68, ↓v144_71, ↓v144_72, ↓v144_73, ↓v144_74, ↓v144_75, ↓v144_78, ↓v144_79, ↓v144_80, ↓v144_83, ↓v144_84, ↓v144_85, ↓v144_86, ↓v144_87, ↓v144_90, ↓v144_91, ↓v144_92, ↓v144_94, ↓v144_96, ↓v144_98, ↓v144_101, ↓v144_102, ↓v144_105, ↓v144_106, ↓v144_107, ↓v144_108, ↓v144_110, ↓v144_111, ↓v144_112, ↓v144_115, ↓v144_117, ↓v144_118, ↓v144_119, ↓v144_122, ↓v144_125, ↓v144_126, ↓v144_128, ↓v144_130, ↓v144_131, ↓v144_134, ↓v144_135, ↓v144_138, ↓v144_139, ↓v144_141, ↓v144_142, ↓v144_143, ↓v144_145, ↓v144_146, ↓v144_147, ↓v144_149, ↓v144_150, ↓v144_153, ↓v144_156, ↓v144_157, ↓v144_160, ↓v144_162, ↓v144_163, ↓v144_165, ↓v144_166, ↓v144_169, ↓v144_170, ↓v144_171, ↓v144_172, ↓v144_175, ↓v144_176, ↓v144_178, ↓v144_179, ↓v144_180, ↓v144_182, ↓v144_183, ↓v144_184, ↓v144_186, ↓v144_187, ↓v144_190, ↓v144_193, ↓v144_194, ↓v144_197, ↓v144_199, ↓v144_200, ↓v144_202, ↓v144_203, ↓v144_206, ↓v144_207, ↓v144_208, ↓v144_211, ↓v144_214, ↓v144_215, ↓v144_216, ↓v144_219, ↓v144_220, ↓v144_221, ↓v144_222, ↓v144_225, ↓v144_226, ↓v144_229, ↓v144_231, ↓v144_233, ↓v144_234, ↓v144_237, ↓v144_240, ↓v144_241, ↓v144_242, ↓v144_243, ↓v144_246, ↓v144_248, ↓v144_249, ↓v144_252, ↓v144_255, ↓v144_258, ↓v144_259, ↓qI_c, ↓qL_c, ↓qR_c, ↓pA_o, ↓qC_i, ↓qC_r, ↓oA_s, ↓gI_0, ↓gI_1, ↓gI_2, ↓gI_3, ↓gI_4, ↓gI_5, ↓gI_6, ↓gI_7, ↓gI_8, ↓gI_9, ↓gI_10, ↓gR_0, ↓gR_1, ↓gR_2, ↓gR_3, ↓gR_4, ↓gR_5, ↓gR_6, ↓gR_7, ↓gR_8, ↓gR_9, ↓gR_10, ↓sL_0, ↓sL_1, ↓sL_2, ↓sL_3, ↓sL_4, ↓sL_5, ↓sL_6, ↓sL_7, ↓sL_8, ↓sL_9, ↓sL_10, ↓rrf_si, ↓rrf_sg, ↓shO_si, ↓shO_sg, ↓shO_sr, ↓shA_si, ↓shA_sg, ↓shA_sr, ↓pAs_0, ↓pAs_i, ↓pAs_r, stk_n, stk_i, stk_l, stk_r, List.nil_append, List.cons_append, true_and, and_true, true_or, or_true, Nat.zero_add, dp_s, Nat.reduceAdd, le8_0, le8_1, le8_2, le8_3, le8_4, le8_5, le8_6, le8_7, le8_8, Classical.not_not, aT40, aT41, aT42, aT44, aT54, aT58, aT59, rT54, rT58, rT59, reduceIte, Nat.reduceEqDiff, qn_42, qn_44, true_implies, not_true_eq_false, not_false_eq_true, false_implies, le_T, T_3, nT (show t < 2147483648 by omega), ↓shO_of s7.1.1, ↓rrf_of s7.2.2.1.1, x1, g11, nT (show s.tb.length < 2147483648 by omega), ↓rrf_of s7.2.1.1, ↓shA_of s7.2.2.2.1.2.2.2.2.2.2.1, nC (show t < 2147483648 by omega), g7, d1]
        refine ⟨fun c => by omega, fun _ => ⟨fun c => by omega, fun _ => ⟨inB_n (by omega) (by omega), by decide, ?_⟩⟩⟩
        refine vc_X 40 _ _ _ _ _ _ _ ?_
        simp only [↓v144_0, ↓v144_1, ↓v144_2, ↓v144_5, ↓v144_8, ↓v144_9, ↓v144_10, ↓v144_13, ↓v144_14, ↓v144_15, ↓v144_16, ↓v144_19, ↓v144_20, ↓v144_21, ↓v144_24, ↓v144_25, ↓v144_28, ↓v144_29, ↓v144_32, ↓v144_33, ↓v144_36, ↓v144_37, ↓v144_38, ↓v144_39, ↓v144_40, ↓v144_42, ↓v144_43, ↓v144_44, ↓v144_45, ↓v144_46, ↓v144_49, ↓v144_50, ↓v144_51, ↓v144_54, ↓v144_55, ↓v144_56, ↓v144_59, ↓v144_60, ↓v144_61, ↓v144_62, ↓v144_63, ↓v144_66, ↓v144_67, ↓v144_68, ↓v144_71, ↓v144_72, ↓v144_73, ↓v144_74, ↓v144_75, ↓v144_78, ↓v144_79, ↓v144_80, ↓v144_83, ↓v144_84, ↓v144_85, ↓v144_86, ↓v144_87, ↓v144_90, ↓v144_91, ↓v144_92, ↓v144_94, ↓v144_96, ↓v144_98, ↓v144_101, ↓v144_102, ↓v144_105, ↓v144_106, ↓v144_107, ↓v144_108, ↓v144_110, ↓v144_111, ↓v144_112, ↓v144_115, ↓v144_117, ↓v144_118, ↓v144_119, ↓v144_122, ↓v144_125, ↓v144_126, ↓v144_128, ↓v144_130, ↓v144_131, ↓v144_134, ↓v144_135, ↓v144_138, ↓v144_139, ↓v144_141, ↓v144_142, ↓v144_143, ↓v144_145, ↓v144_146, ↓v144_147, ↓v144_149, ↓v144_150, ↓v144_153, ↓v144_156, ↓v144_157, ↓v144_160, ↓v144_162, ↓v144_163, ↓v144_165, ↓v144_166, ↓v144_169, ↓v144_170, ↓v144_171, ↓v144_172, ↓v144_175, ↓v144_176, ↓v144_178, ↓v144_179, ↓v144_180, ↓v144_182, ↓v144_183, ↓v144_184, ↓v144_186, ↓v144_187, ↓v144_190, ↓v144_193, ↓v144_194, ↓v144_197, ↓v144_199, ↓v144_200, ↓v144_202, ↓v144_203, ↓v144_206, ↓v144_207, ↓v144_208, ↓v144_211, ↓v144_214, ↓v144_215, ↓v144_216, ↓v144_219, ↓v144_220, ↓v144_221, ↓v144_222, ↓v144_225, ↓v144_226, ↓v144_229, ↓v144_231, ↓v144_233, ↓v144_234, ↓v144_237, ↓v144_240, ↓v144_241, ↓v144_242, ↓v144_243, ↓v144_246, ↓v144_248, ↓v144_249, ↓v144_252, ↓v144_255, ↓v144_258, ↓v144_259, ↓qI_c, ↓qL_c, ↓qR_c, ↓pA_o, ↓qC_i, ↓qC_r, ↓oA_s, ↓gI_0, ↓gI_1, ↓gI_2, ↓gI_3, ↓gI_4, ↓gI_5, ↓gI_6, ↓gI_7, ↓gI_8, ↓gI_9, ↓gI_10, ↓gR_0, ↓gR_1, ↓gR_2, ↓gR_3, ↓gR_4, ↓gR_5, ↓gR_6, ↓gR_7, ↓gR_8, ↓gR_9, ↓gR_10, ↓sL_0, ↓sL_1, ↓sL_2, ↓sL_3, ↓sL_4, ↓sL_5, ↓sL_6, ↓sL_7, ↓sL_8, ↓sL_9, ↓sL_10, ↓rrf_si, ↓rrf_sg, ↓shO_si, ↓shO_sg, ↓shO_sr, ↓shA_si, ↓shA_sg, ↓shA_sr, ↓pAs_0, ↓pAs_i, ↓pAs_r, stk_n, stk_i, stk_l, stk_r, List.nil_append, List.cons_append, true_and, and_true, true_or, or_true, Nat.zero_add, dp_s, Nat.reduceAdd, le8_0, le8_1, le8_2, le8_3, le8_4, le8_5, le8_6, le8_7, le8_8, Classical.not_not, aT40, aT41, aT42, aT44, aT54, aT58, aT59, rT54, rT58, rT59, reduceIte, Nat.reduceEqDiff, qn_42, qn_44, true_implies, not_true_eq_false, not_false_eq_true, false_implies, ↓shA_of s7.2.2.2.2.1.2.2.2.2.2.2.1, nC (show 18 * w + 12 + 2 * t < 2147483648 by omega), hM8, ↓shO_of s7.1.1, ↓rrf_of s7.2.2.1.1, x2, k11, le_T, nT (show t < 2147483648 by omega), nT (show s.tb.length < 2147483648 by omega), ↓rrf_of s7.2.1.1, ↓shA_of s7.2.2.2.1.2.2.2.2.2.2.1, nC (show t < 2147483648 by omega), k7, d1, d2, nC (show 18 * w + 13 + 2 * t < 2147483648 by omega), nI_1]
        exact ⟨inB_n (by omega) (by omega), fun c => by omega, fun _ => ⟨inB_n (by omega) (by omega), by decide, inB_n (by omega) (by omega), fin1⟩⟩
      · have fin1 := fin 0 0 (fun v2 hv2 => by
          have := (List.getElem?_eq_some_iff.mp hv2).1
          rw [List.length_map] at this
          exact (ct this).elim)
        generalize hM8 : M7.si (r + 15) (18 * w + 12 + 2 * t) (nI 0) = M8 at fin1
        have hM8' : M7.si (r + 15) (18 * w + 12 + 2 * t) 0 = M8 := hM8
        have k11 : M8.it r 11 = nI s.tb.length := by rw [← hM8, si_it, if_neg (by omega)]; exact g11
        refine vc_X 40 _ _ _ _ _ _ _ ?_
        simp only [↓v144_0, ↓v144_1, ↓v144_2, ↓v144_5, ↓v144_8, ↓v144_9, ↓v144_10, ↓v144_13, ↓v144_14, ↓v144_15, ↓v144_16, ↓v144_19, ↓v144_20, ↓v144_21, ↓v144_24, ↓v144_25, ↓v144_28, ↓v144_29, ↓v144_32, ↓v144_33, ↓v144_36, ↓v144_37, ↓v144_38, ↓v144_39, ↓v144_40, ↓v144_42, ↓v144_43, ↓v144_44, ↓v144_45, ↓v144_46, ↓v144_49, ↓v144_50, ↓v144_51, ↓v144_54, ↓v144_55, ↓v144_56, ↓v144_59, ↓v144_60, ↓v144_61, ↓v144_62, ↓v144_63, ↓v144_66, ↓v144_67, ↓v144_68, ↓v144_71, ↓v144_72, ↓v144_73, ↓v144_74, ↓v144_75, ↓v144_78, ↓v144_79, ↓v144_80, ↓v144_83, ↓v144_84, ↓v144_85, ↓v144_86, ↓v144_87, ↓v144_90, ↓v144_91, ↓v144_92, ↓v144_94, ↓v144_96, ↓v144_98, ↓v144_101, ↓v144_102, ↓v144_105, ↓v144_106, ↓v144_107, ↓v144_108, ↓v144_110, ↓v144_111, ↓v144_112, ↓v144_115, ↓v144_117, ↓v144_118, ↓v144_119, ↓v144_122, ↓v144_125, ↓v144_126, ↓v144_128, ↓v144_130, ↓v144_131, ↓v144_134, ↓v144_135, ↓v144_138, ↓v144_139, ↓v144_141, ↓v144_142, ↓v144_143, ↓v144_145, ↓v144_146, ↓v144_147, ↓v144_149, ↓v144_150, ↓v144_153, ↓v144_156, ↓v144_157, ↓v144_160, ↓v144_162, ↓v144_163, ↓v144_165, ↓v144_166, ↓v144_169, ↓v144_170, ↓v144_171, ↓v144_172, ↓v144_175, ↓v144_176, ↓v144_178, ↓v144_179, ↓v144_180, ↓v144_182, ↓v144_183, ↓v144_184, ↓v144_186, ↓v144_187, ↓v144_190, ↓v144_193, ↓v144_194, ↓v144_197, ↓v144_199, ↓v144_200, ↓v144_202, ↓v144_203, ↓v144_206, ↓v144_207, ↓v144_208, ↓v144_211, ↓v144_214, ↓v144_215, ↓v144_216, ↓v144_219, ↓v144_220, ↓v144_221, ↓v144_222, ↓v144_225, ↓v144_226, ↓v144_229, ↓v144_231, ↓v144_233, ↓v144_234, ↓v144_237, ↓v144_240, ↓v144_241, ↓v144_242, ↓v144_243, ↓v144_246, ↓v144_248, ↓v144_249, ↓v144_252, ↓v144_255, ↓v144_258, ↓v144_259, ↓qI_c, ↓qL_c, ↓qR_c, ↓pA_o, ↓qC_i, ↓qC_r, ↓oA_s, ↓gI_0, ↓gI_1, ↓gI_2, ↓gI_3, ↓gI_4, ↓gI_5, ↓gI_6, ↓gI_7, ↓gI_8, ↓gI_9, ↓gI_10, ↓gR_0, ↓gR_1, ↓gR_2, ↓gR_3, ↓gR_4, ↓gR_5, ↓gR_6, ↓gR_7, ↓gR_8, ↓gR_9, ↓gR_10, ↓sL_0, ↓sL_1, ↓sL_2, ↓sL_3, ↓sL_4, ↓sL_5, ↓sL_6, ↓sL_7, ↓sL_8, ↓sL_9, ↓sL_10, ↓rrf_si, ↓rrf_sg, ↓shO_si, ↓shO_sg, ↓shO_sr, ↓shA_si, ↓shA_sg, ↓shA_sr, ↓pAs_0, ↓pAs_i, ↓pAs_r, stk_n, stk_i, stk_l, stk_r, List.nil_append, List.cons_append, true_and, and_true, true_or, or_true, Nat.zero_add, dp_s, Nat.reduceAdd, le8_0, le8_1, le8_2, le8_3, le8_4, le8_5, le8_6, le8_7, le8_8, Classical.not_not, aT40, aT41, aT42, aT44, aT54, aT58, aT59, rT54, rT58, rT59, reduceIte, Nat.reduceEqDiff, qn_42, qn_44, true_implies, not_true_eq_false, not_false_eq_true, false_implies, le_T, T_3, nT (show t < 2147483648 by omega), ↓shO_of s7.1.1, ↓rrf_of s7.2.2.1.1, x1, g11, nT (show s.tb.length < 2147483648 by omega), ↓rrf_of s7.2.1.1, ↓shA_of s7.2.2.2.1.2.2.2.2.2.2.1, nC (show t < 2147483648 by omega)]
        refine ⟨fun c => by omega, fun _ => ⟨fun _ => ?_, fun c => by omega⟩⟩
        refine vc_X 40 _ _ _ _ _ _ _ ?_
        simp only [↓v144_0, ↓v144_1, ↓v144_2, ↓v144_5, ↓v144_8, ↓v144_9, ↓v144_10, ↓v144_13, ↓v144_14, ↓v144_15, ↓v144_16, ↓v144_19, ↓v144_20, ↓v144_21, ↓v144_24, ↓v144_25, ↓v144_28, ↓v144_29, ↓v144_32, ↓v144_33, ↓v144_36, ↓v144_37, ↓v144_38, ↓v144_39, ↓v144_40, ↓v144_42, ↓v144_43, ↓v144_44, ↓v144_45, ↓v144_46, ↓v144_49, ↓v144_50, ↓v144_51, ↓v144_54, ↓v144_55, ↓v144_56, ↓v144_59, ↓v144_60, ↓v144_61, ↓v144_62, ↓v144_63, ↓v144_66, ↓v144_67, ↓v144_68, ↓v144_71, ↓v144_72, ↓v144_73, ↓v144_74, ↓v144_75, ↓v144_78, ↓v144_79, ↓v144_80, ↓v144_83, ↓v144_84, ↓v144_85, ↓v144_86, ↓v144_87, ↓v144_90, ↓v144_91, ↓v144_92, ↓v144_94, ↓v144_96, ↓v144_98, ↓v144_101, ↓v144_102, ↓v144_105, ↓v144_106, ↓v144_107, ↓v144_108, ↓v144_110, ↓v144_111, ↓v144_112, ↓v144_115, ↓v144_117, ↓v144_118, ↓v144_119, ↓v144_122, ↓v144_125, ↓v144_126, ↓v144_128, ↓v144_130, ↓v144_131, ↓v144_134, ↓v144_135, ↓v144_138, ↓v144_139, ↓v144_141, ↓v144_142, ↓v144_143, ↓v144_145, ↓v144_146, ↓v144_147, ↓v144_149, ↓v144_150, ↓v144_153, ↓v144_156, ↓v144_157, ↓v144_160, ↓v144_162, ↓v144_163, ↓v144_165, ↓v144_166, ↓v144_169, ↓v144_170, ↓v144_171, ↓v144_172, ↓v144_175, ↓v144_176, ↓v144_178, ↓v144_179, ↓v144_180, ↓v144_182, ↓v144_183, ↓v144_184, ↓v144_186, ↓v144_187, ↓v144_190, ↓v144_193, ↓v144_194, ↓v144_197, ↓v144_199, ↓v144_200, ↓v144_202, ↓v144_203, ↓v144_206, ↓v144_207, ↓v144_208, ↓v144_211, ↓v144_214, ↓v144_215, ↓v144_216, ↓v144_219, ↓v144_220, ↓v144_221, ↓v144_222, ↓v144_225, ↓v144_226, ↓v144_229, ↓v144_231, ↓v144_233, ↓v144_234, ↓v144_237, ↓v144_240, ↓v144_241, ↓v144_242, ↓v144_243, ↓v144_246, ↓v144_248, ↓v144_249, ↓v144_252, ↓v144_255, ↓v144_258, ↓v144_259, ↓qI_c, ↓qL_c, ↓qR_c, ↓pA_o, ↓qC_i, ↓qC_r, ↓oA_s, ↓gI_0, ↓gI_1, ↓gI_2, ↓gI_3, ↓gI_4, ↓gI_5, ↓gI_6, ↓gI_7, ↓gI_8, ↓gI_9, ↓gI_10, ↓gR_0, ↓gR_1, ↓gR_2, ↓gR_3, ↓gR_4, ↓gR_5, ↓gR_6, ↓gR_7, ↓gR_8, ↓gR_9, ↓gR_10, ↓sL_0, ↓sL_1, ↓sL_2, ↓sL_3, ↓sL_4, ↓sL_5, ↓sL_6, ↓sL_7, ↓sL_8, ↓sL_9, ↓sL_10, ↓rrf_si, ↓rrf_sg, ↓shO_si, ↓shO_sg, ↓shO_sr, ↓shA_si, ↓shA_sg, ↓shA_sr, ↓pAs_0, ↓pAs_i, ↓pAs_r, stk_n, stk_i, stk_l, stk_r, List.nil_append, List.cons_append, true_and, and_true, true_or, or_true, Nat.zero_add, dp_s, Nat.reduceAdd, le8_0, le8_1, le8_2, le8_3, le8_4, le8_5, le8_6, le8_7, le8_8, Classical.not_not, aT40, aT41, aT42, aT44, aT54, aT58, aT59, rT54, rT58, rT59, reduceIte, Nat.reduceEqDiff, qn_42, qn_44, true_implies, not_true_eq_false, not_false_eq_true, false_implies, ↓shA_of s7.2.2.2.2.1.2.2.2.2.2.2.1, nC (show 18 * w + 12 + 2 * t < 2147483648 by omega), hM8', ↓shO_of s7.1.1, ↓rrf_of s7.2.2.1.1, x2, k11, le_T, nT (show t < 2147483648 by omega), nT (show s.tb.length < 2147483648 by omega), ↓rrf_of s7.2.1.1, ↓shA_of s7.2.2.2.1.2.2.2.2.2.2.1, nC (show t < 2147483648 by omega), nC (show 18 * w + 13 + 2 * t < 2147483648 by omega), nI_1]
        exact ⟨inB_n (by omega) (by omega), fun _ => ⟨inB_n (by omega) (by omega), fin1⟩, fun c => by omega⟩
  have lopP : ∀ (m e : Nat) (M7 : Mm), e + m = 8 → Rw_ r w M M7 → Oi (· = r + 15) M6 M7 → (∀ i, i < 4 → M7.it (r + 15) (18 * w + i) = M6.it (r + 15) (18 * w + i)) → (∀ u, u < e → M7.it (r + 15) (18 * w + 4 + u) = nI (s.pt u)) → X d 144 94 [some (.inr (some r)), z1, some (.inl (nI w)), some (.inl (nI (18 * w))), some (.inl (nI e))] [] M7 k := by
    intro m
    induction m with
    | zero =>
      intro e M7 he o7 i7 a b
      have e8 : e = 8 := by omega
      subst e8
      refine vc_X 20 _ _ _ _ _ _ _ ?_
      simp only [↓v144_0, ↓v144_1, ↓v144_2, ↓v144_5, ↓v144_8, ↓v144_9, ↓v144_10, ↓v144_13, ↓v144_14, ↓v144_15, ↓v144_16, ↓v144_19, ↓v144_20, ↓v144_21, ↓v144_24, ↓v144_25, ↓v144_28, ↓v144_29, ↓v144_32, ↓v144_33, ↓v144_36, ↓v144_37, ↓v144_38, ↓v144_39, ↓v144_40, ↓v144_42, ↓v144_43, ↓v144_44, ↓v144_45, ↓v144_46, ↓v144_49, ↓v144_50, ↓v144_51, ↓v144_54, ↓v144_55, ↓v144_56, ↓v144_59, ↓v144_60, ↓v144_61, ↓v144_62, ↓v144_63, ↓v144_66, ↓v144_67, ↓v144_68, ↓v144_71, ↓v144_72, ↓v144_73, ↓v144_74, ↓v144_75, ↓v144_78, ↓v144_79, ↓v144_80, ↓v144_83, ↓v144_84, ↓v144_85, ↓v144_86, ↓v144_87, ↓v144_90, ↓v144_91, ↓v144_92, ↓v144_94, ↓v144_96, ↓v144_98, ↓v144_101, ↓v144_102, ↓v144_105, ↓v144_106, ↓v144_107, ↓v144_108, ↓v144_110, ↓v144_111, ↓v144_112, ↓v144_115, ↓v144_117, ↓v144_118, ↓v144_119, ↓v144_122, ↓v144_125, ↓v144_126, ↓v144_128, ↓v144_130, ↓v144_131, ↓v144_134, ↓v144_135, ↓v144_138, ↓v144_139, ↓v144_141, ↓v144_142, ↓v144_143, ↓v144_145, ↓v144_146, ↓v144_147, ↓v144_149, ↓v144_150, ↓v144_153, ↓v144_156, ↓v144_157, ↓v144_160, ↓v144_162, ↓v144_163, ↓v144_165, ↓v144_166, ↓v144_169, ↓v144_170, ↓v144_171, ↓v144_172, ↓v144_175, ↓v144_176, ↓v144_178, ↓v144_179, ↓v144_180, ↓v144_182, ↓v144_183, ↓v144_184, ↓v144_186, ↓v144_187, ↓v144_190, ↓v144_193, ↓v144_194, ↓v144_197, ↓v144_199, ↓v144_200, ↓v144_202, ↓v144_203, ↓v144_206, ↓v144_207, ↓v144_208, ↓v144_211, ↓v144_214, ↓v144_215, ↓v144_216, ↓v144_219, ↓v144_220, ↓v144_221, ↓v144_222, ↓v144_225, ↓v144_226, ↓v144_229, ↓v144_231, ↓v144_233, ↓v144_234, ↓v144_237, ↓v144_240, ↓v144_241, ↓v144_242, ↓v144_243, ↓v144_246, ↓v144_248, ↓v144_249, ↓v144_252, ↓v144_255, ↓v144_258, ↓v144_259, ↓qI_c, ↓qL_c, ↓qR_c, ↓pA_o, ↓qC_i, ↓qC_r, ↓oA_s, ↓gI_0, ↓gI_1, ↓gI_2, ↓gI_3, ↓gI_4, ↓gI_5, ↓gI_6, ↓gI_7, ↓gI_8, ↓gI_9, ↓gI_10, ↓gR_0, ↓gR_1, ↓gR_2, ↓gR_3, ↓gR_4, ↓gR_5, ↓gR_6, ↓gR_7, ↓gR_8, ↓gR_9, ↓gR_10, ↓sL_0, ↓sL_1, ↓sL_2, ↓sL_3, ↓sL_4, ↓sL_5, ↓sL_6, ↓sL_7, ↓sL_8, ↓sL_9, ↓sL_10, ↓rrf_si, ↓rrf_sg, ↓shO_si, ↓shO_sg, ↓shO_sr, ↓shA_si, ↓shA_sg, ↓shA_sr, ↓pAs_0, ↓pAs_i, ↓pAs_r, stk_n, stk_i, stk_l, stk_r, List.nil_append, List.cons_append, true_and, and_true, true_or, or_true, Nat.zero_add, dp_s, Nat.reduceAdd, le8_0, le8_1, le8_2, le8_3, le8_4, le8_5, le8_6, le8_7, le8_8, Classical.not_not, aT40, aT41, aT42, aT44, aT54, aT58, aT59, rT54, rT58, rT59, reduceIte, Nat.reduceEqDiff, qn_42, qn_44, true_implies, not_true_eq_false, not_false_eq_true, false_implies, le_T, T_8, nT (show 8 < 2147483648 by omega)]
      refine ⟨fun _ => ?_, fun c => absurd (by decide) c⟩
      exact lopT 3 0 M7 (by omega) o7 i7 a b (fun u v hu => by omega)
    | succ m ih =>
      intro e M7 he o7 i7 a b
      have s7 := hs.oi o7.1.1
      have g4 : M7.it (r + 4) e = nI (s.pt e) := by rw [o7.1.at_ (by omega) (by omega)]; exact (hpt e (by omega)).1
      have x1 : nI (18 * w) + 4 + nI e = nI (18 * w + 4 + e) := by rw [n_4, nI_add, nI_add]
      refine vc_X 40 _ _ _ _ _ _ _ ?_
      simp only [↓v144_0, ↓v144_1, ↓v144_2, ↓v144_5, ↓v144_8, ↓v144_9, ↓v144_10, ↓v144_13, ↓v144_14, ↓v144_15, ↓v144_16, ↓v144_19, ↓v144_20, ↓v144_21, ↓v144_24, ↓v144_25, ↓v144_28, ↓v144_29, ↓v144_32, ↓v144_33, ↓v144_36, ↓v144_37, ↓v144_38, ↓v144_39, ↓v144_40, ↓v144_42, ↓v144_43, ↓v144_44, ↓v144_45, ↓v144_46, ↓v144_49, ↓v144_50, ↓v144_51, ↓v144_54, ↓v144_55, ↓v144_56, ↓v144_59, ↓v144_60, ↓v144_61, ↓v144_62, ↓v144_63, ↓v144_66, ↓v144_67, ↓v144_68, ↓v144_71, ↓v144_72, ↓v144_73, ↓v144_74, ↓v144_75, ↓v144_78, ↓v144_79, ↓v144_80, ↓v144_83, ↓v144_84, ↓v144_85, ↓v144_86, ↓v144_87, ↓v144_90, ↓v144_91, ↓v144_92, ↓v144_94, ↓v144_96, ↓v144_98, ↓v144_101, ↓v144_102, ↓v144_105, ↓v144_106, ↓v144_107, ↓v144_108, ↓v144_110, ↓v144_111, ↓v144_112, ↓v144_115, ↓v144_117, ↓v144_118, ↓v144_119, ↓v144_122, ↓v144_125, ↓v144_126, ↓v144_128, ↓v144_130, ↓v144_131, ↓v144_134, ↓v144_135, ↓v144_138, ↓v144_139, ↓v144_141, ↓v144_142, ↓v144_143, ↓v144_145, ↓v144_146, ↓v144_147, ↓v144_149, ↓v144_150, ↓v144_153, ↓v144_156, ↓v144_157, ↓v144_160, ↓v144_162, ↓v144_163, ↓v144_165, ↓v144_166, ↓v144_169, ↓v144_170, ↓v144_171, ↓v144_172, ↓v144_175, ↓v144_176, ↓v144_178, ↓v144_179, ↓v144_180, ↓v144_182, ↓v144_183, ↓v144_184, ↓v144_186, ↓v144_187, ↓v144_190, ↓v144_193, ↓v144_194, ↓v144_197, ↓v144_199, ↓v144_200, ↓v144_202, ↓v144_203, ↓v144_206, ↓v144_207, ↓v144_208, ↓v144_211, ↓v144_214, ↓v144_215, ↓v144_216, ↓v144_219, ↓v144_220, ↓v144_221, ↓v144_222, ↓v144_225, ↓v144_226, ↓v144_229, ↓v144_231, ↓v144_233, ↓v144_234, ↓v144_237, ↓v144_240, ↓v144_241, ↓v144_242, ↓v144_243, ↓v144_246, ↓v144_248, ↓v144_249, ↓v144_252, ↓v144_255, ↓v144_258, ↓v144_259, ↓qI_c, ↓qL_c, ↓qR_c, ↓pA_o, ↓qC_i, ↓qC_r, ↓oA_s, ↓gI_0, ↓gI_1, ↓gI_2, ↓gI_3, ↓gI_4, ↓gI_5, ↓gI_6, ↓gI_7, ↓gI_8, ↓gI_9, ↓gI_10, ↓gR_0, ↓gR_1, ↓gR_2, ↓gR_3, ↓gR_4, ↓gR_5, ↓gR_6, ↓gR_7, ↓gR_8, ↓gR_9, ↓gR_10, ↓sL_0, ↓sL_1, ↓sL_2, ↓sL_3, ↓sL_4, ↓sL_5, ↓sL_6, ↓sL_7, ↓sL_8, ↓sL_9, ↓sL_10, ↓rrf_si, ↓rrf_sg, ↓shO_si, ↓shO_sg, ↓shO_sr, ↓shA_si, ↓shA_sg, ↓shA_sr, ↓pAs_0, ↓pAs_i, ↓pAs_r, stk_n, stk_i, stk_l, stk_r, List.nil_append, List.cons_append, true_and, and_true, true_or, or_true, Nat.zero_add, dp_s, Nat.reduceAdd, le8_0, le8_1, le8_2, le8_3, le8_4, le8_5, le8_6, le8_7, le8_8, Classical.not_not, aT40, aT41, aT42, aT44, aT54, aT58, aT59, rT54, rT58, rT59, reduceIte, Nat.reduceEqDiff, qn_42, qn_44, true_implies, not_true_eq_false, not_false_eq_true, false_implies, le_T, T_8, nT (show e < 2147483648 by omega), ↓shO_of s7.1.1, ↓rrf_of s7.2.2.1.1, x1, ↓shA_of s7.2.2.2.2.1.2.2.2.2.2.2.1, nC (show 18 * w + 4 + e < 2147483648 by omega), ↓rrf_of s7.1.2.2.2.2.1, ↓shA_of s7.2.2.2.1.2.2.2.1, nC (show e < 2147483648 by omega), g4, nI_1]
      refine ⟨fun c => by omega, fun _ => ⟨inB_n (by omega) (by omega), inB_n (by omega) (by omega), ?_⟩⟩
      refine ih (e + 1) _ (by omega) ?_ (i7.i rfl) (fun i hi => ?_) (fun u hu => ?_)
      · rw [show 18 * w + 4 + e = 18 * w + (4 + e) by omega]
        exact o7.rec (by omega)
      · rw [si_it, if_neg (fun z => by omega)]; exact a i hi
      · by_cases cu : u = e
        · subst cu
          rw [si_it, if_pos ⟨rfl, rfl⟩]
        · rw [si_it, if_neg (fun z => by omega)]
          exact b u (by omega)
  refine vc_X 10 _ _ _ _ _ _ _ ?_
  simp only [↓v144_0, ↓v144_1, ↓v144_2, ↓v144_5, ↓v144_8, ↓v144_9, ↓v144_10, ↓v144_13, ↓v144_14, ↓v144_15, ↓v144_16, ↓v144_19, ↓v144_20, ↓v144_21, ↓v144_24, ↓v144_25, ↓v144_28, ↓v144_29, ↓v144_32, ↓v144_33, ↓v144_36, ↓v144_37, ↓v144_38, ↓v144_39, ↓v144_40, ↓v144_42, ↓v144_43, ↓v144_44, ↓v144_45, ↓v144_46, ↓v144_49, ↓v144_50, ↓v144_51, ↓v144_54, ↓v144_55, ↓v144_56, ↓v144_59, ↓v144_60, ↓v144_61, ↓v144_62, ↓v144_63, ↓v144_66, ↓v144_67, ↓v144_68, ↓v144_71, ↓v144_72, ↓v144_73, ↓v144_74, ↓v144_75, ↓v144_78, ↓v144_79, ↓v144_80, ↓v144_83, ↓v144_84, ↓v144_85, ↓v144_86, ↓v144_87, ↓v144_90, ↓v144_91, ↓v144_92, ↓v144_94, ↓v144_96, ↓v144_98, ↓v144_101, ↓v144_102, ↓v144_105, ↓v144_106, ↓v144_107, ↓v144_108, ↓v144_110, ↓v144_111, ↓v144_112, ↓v144_115, ↓v144_117, ↓v144_118, ↓v144_119, ↓v144_122, ↓v144_125, ↓v144_126, ↓v144_128, ↓v144_130, ↓v144_131, ↓v144_134, ↓v144_135, ↓v144_138, ↓v144_139, ↓v144_141, ↓v144_142, ↓v144_143, ↓v144_145, ↓v144_146, ↓v144_147, ↓v144_149, ↓v144_150, ↓v144_153, ↓v144_156, ↓v144_157, ↓v144_160, ↓v144_162, ↓v144_163, ↓v144_165, ↓v144_166, ↓v144_169, ↓v144_170, ↓v144_171, ↓v144_172, ↓v144_175, ↓v144_176, ↓v144_178, ↓v144_179, ↓v144_180, ↓v144_182, ↓v144_183, ↓v144_184, ↓v144_186, ↓v144_187, ↓v144_190, ↓v144_193, ↓v144_194, ↓v144_197, ↓v144_199, ↓v144_200, ↓v144_202, ↓v144_203, ↓v144_206, ↓v144_207, ↓v144_208, ↓v144_211, ↓v144_214, ↓v144_215, ↓v144_216, ↓v144_219, ↓v144_220, ↓v144_221, ↓v144_222, ↓v144_225, ↓v144_226, ↓v144_229, ↓v144_231, ↓v144_233, ↓v144_234, ↓v144_237, ↓v144_240, ↓v144_241, ↓v144_242, ↓v144_243, ↓v144_246, ↓v144_248, ↓v144_249, ↓v144_252, ↓v144_255, ↓v144_258, ↓v144_259, ↓qI_c, ↓qL_c, ↓qR_c, ↓pA_o, ↓qC_i, ↓qC_r, ↓oA_s, ↓gI_0, ↓gI_1, ↓gI_2, ↓gI_3, ↓gI_4, ↓gI_5, ↓gI_6, ↓gI_7, ↓gI_8, ↓gI_9, ↓gI_10, ↓gR_0, ↓gR_1, ↓gR_2, ↓gR_3, ↓gR_4, ↓gR_5, ↓gR_6, ↓gR_7, ↓gR_8, ↓gR_9, ↓gR_10, ↓sL_0, ↓sL_1, ↓sL_2, ↓sL_3, ↓sL_4, ↓sL_5, ↓sL_6, ↓sL_7, ↓sL_8, ↓sL_9, ↓sL_10, ↓rrf_si, ↓rrf_sg, ↓shO_si, ↓shO_sg, ↓shO_sr, ↓shA_si, ↓shA_sg, ↓shA_sr, ↓pAs_0, ↓pAs_i, ↓pAs_r, stk_n, stk_i, stk_l, stk_r, List.nil_append, List.cons_append, true_and, and_true, true_or, or_true, Nat.zero_add, dp_s, Nat.reduceAdd, le8_0, le8_1, le8_2, le8_3, le8_4, le8_5, le8_6, le8_7, le8_8, Classical.not_not, aT40, aT41, aT42, aT44, aT54, aT58, aT59, rT54, rT58, rT59, reduceIte, Nat.reduceEqDiff, qn_42, qn_44, true_implies, not_true_eq_false, not_false_eq_true, false_implies]
  exact lopP 8 0 M6 (by omega) o6 Oi.rf_ (fun _ _ => rfl) (fun u hu => by omega)
