/-! Entries.readFrom -/
theorem k36j {d : Nat} {M : Mm} {k : mQ} {a c N j : Nat} {l : List Int32} {v : Int32} (h : BC M a c N l) (hj : l[j]? = some v) (hk : k (some (.inl v)) M) : XC (d + 1) 36 [.inr (some a), .inl (nI j)] M k := by
  have hlt : j < l.length := (List.getElem?_eq_some_iff.mp hj).1
  have hN := h.2.2.1
  have hN2 := h.1.2.2.2
  refine k36 h (fun i w hi hw => ?_) (fun c => absurd (inB_n hlt (by omega)) c)
  have hilt : i < l.length := (List.getElem?_eq_some_iff.mp hw).1
  rw [nI_eq (by omega) (by omega)] at hi
  subst hi
  rw [hj] at hw
  cases hw
  exact hk
theorem nE_mono (sp : Nat → Option Nat) {i : Nat} : ∀ {n}, i ≤ n → nE sp i ≤ nE sp n := by
  intro n
  induction n with
  | zero => intro h; rw [show i = 0 by omega]; exact Nat.le_refl _
  | succ n ih =>
    intro h
    by_cases hi : i = n + 1
    · rw [hi]; exact Nat.le_refl _
    · have := ih (by omega)
      rw [nE_s]
      omega
theorem spl_get (sp : Nat → Option Nat) {i p t : Nat} (hs : sp i = some p) (ht : t < 3) : ∀ n, i < n → (spl sp n)[3 * nE sp i + t]? = (spE i (some p))[t]? := by
  intro n
  induction n with
  | zero => intro h; omega
  | succ n ih =>
    intro h
    show (spl sp n ++ spE n (sp n))[3 * nE sp i + t]? = _
    by_cases hi : i = n
    · subst hi
      rw [List.getElem?_append_right (by rw [spl_len]; omega), spl_len, hs]
      congr 1
      omega
    · have h1 := nE_mono sp (show i + 1 ≤ n by omega)
      rw [nE_s, hs] at h1
      simp only [Option.isSome_some, if_true] at h1
      rw [List.getElem?_append_left (by rw [spl_len]; omega)]
      exact ih (by omega)
theorem tbL_get (sp : Nat → Option Nat) {i p : Nat} (hs : sp i = some p) (hi : i < 48) : (tbL sp)[1 + 3 * nE sp i]? = some i ∧ (tbL sp)[2 + 3 * nE sp i]? = some (if p = 255 then 255 else p / 16) ∧ (tbL sp)[3 + 3 * nE sp i]? = some (if p = 255 then 0 else p % 16) := by
  have h0 := spl_get sp hs (t := 0) (by omega) 48 hi
  have h1 := spl_get sp hs (t := 1) (by omega) 48 hi
  have h2 := spl_get sp hs (t := 2) (by omega) 48 hi
  unfold tbL
  generalize spl sp 48 = l at h0 h1 h2
  refine ⟨?_, ?_, ?_⟩
  · rw [show 1 + 3 * nE sp i = 3 * nE sp i + 0 + 1 by omega, List.getElem?_cons_succ]; exact h0.trans rfl
  · rw [show 2 + 3 * nE sp i = 3 * nE sp i + 1 + 1 by omega, List.getElem?_cons_succ, h1]; rfl
  · rw [show 3 + 3 * nE sp i = 3 * nE sp i + 2 + 1 by omega, List.getElem?_cons_succ, h2]; rfl
def rst (sp : Nat → Option Nat) (i : Nat) : Nat → Option Nat := fun k => if k < i then sp k else none
theorem rst_n {sp : Nat → Option Nat} {i : Nat} (h : sp i = none) : rst sp (i + 1) = rst sp i := by
  funext k
  unfold rst
  by_cases hk : k < i
  · rw [if_pos hk, if_pos (by omega)]
  · rw [if_neg hk]
    by_cases hki : k = i
    · rw [if_pos (by omega), hki, h]
    · rw [if_neg (by omega)]
theorem rst_s {sp : Nat → Option Nat} {i p : Nat} (h : sp i = some p) : rst sp (i + 1) = ups (rst sp i) i (some p) := by
  funext k
  show (if k < i + 1 then sp k else none) = if k = i then some p else (if k < i then sp k else none)
  by_cases hki : k = i
  · rw [if_pos hki, if_pos (by omega), hki, h]
  · rw [if_neg hki]
    by_cases hk : k < i
    · rw [if_pos hk, if_pos (by omega)]
    · rw [if_neg hk, if_neg (by omega)]
theorem EnC.congr {M : Mm} {a s : Nat} {sp sp' : Nat → Option Nat} {pl : Option Nat} (h : EnC M a s sp pl) (e : ∀ k, k < 48 → sp' k = sp k) : EnC M a s sp' pl := by
  obtain ⟨h1, h2, h3, h4, h5⟩ := h
  refine ⟨h1, fun k hk => by rw [e k hk]; exact h2 k hk, fun k p hk hp => h3 k p hk (by rw [← e k hk]; exact hp), ?_, h5⟩
  rw [h4]
  exact congrArg nI (cnt_congr 48 (fun i hi => by show (sp i).isSome = (sp' i).isSome; rw [e i hi]))
theorem lop35 {d : Nat} {k : mQ} {a s f c N n0 : Nat} {sp : Nat → Option Nat} (n1 : f ≠ a) (n2 : f ≠ s) (n3 : c ≠ a) (n4 : c ≠ s) (hok : spOK sp) (hn0 : n0 = nE sp 48) : ∀ (m i : Nat) (M : Mm) (z4 z5 : Option mL), i + m = 48 → EnC M a s (rst sp i) none → BC M f c N ((tbL sp).map nI) → (∀ M', EnC M' a s sp none → On [a, s] M M' → k none M') →
    X (d + 2) 35 17 [some (.inr (some a)), some (.inr (some f)), some (.inl (nI n0)), some (.inl (nI (nE sp i))), z4, z5] [] M k := by
  intro m
  have hc0 := nE_le sp 48
  induction m with
  | zero =>
    intro i M z4 z5 hi h hb hk
    have e : i = 48 := by omega
    rw [e, ← hn0]
    rw [e] at h
    refine vc_X 30 _ _ _ _ _ _ _ ?_
    simp only [↓v35_0, ↓v35_1, ↓v35_4, ↓v35_5, ↓v35_6, ↓v35_9, ↓v35_11, ↓v35_14, ↓v35_15, ↓v35_16, ↓v35_17, ↓v35_18, ↓v35_19, ↓v35_22, ↓v35_23, ↓v35_24, ↓v35_25, ↓v35_26, ↓v35_27, ↓v35_28, ↓v35_31, ↓v35_33, ↓v35_34, ↓v35_35, ↓v35_36, ↓v35_37, ↓v35_38, ↓v35_39, ↓v35_42, ↓v35_44, ↓v35_46, ↓v35_49, ↓v35_52, ↓v35_53, ↓v35_54, ↓v35_55, ↓v35_56, ↓v35_57, ↓v35_58, ↓v35_59, ↓v35_62, ↓v35_64, ↓v35_67, ↓v35_70, ↓v35_72, ↓v35_75, ↓v35_78, ↓v35_80, ↓v35_83, ↓v35_85, ↓v35_87, ↓v35_90, ↓v35_91, ↓v35_92, ↓v35_93, ↓v35_94, ↓v35_95, ↓v35_96, ↓v35_97, ↓v35_100, ↓v35_102, ↓v35_104, ↓v35_105, ↓v35_107, ↓v35_108, ↓v35_111, ↓v35_114, ↓v35_117, ↓qI_c, ↓qL_c, ↓qR_c, ↓pA_o, ↓qC_i, ↓qC_r, ↓oA_s, ↓gI_0, ↓gI_1, ↓gI_2, ↓gI_3, ↓gI_4, ↓gI_5, ↓gI_6, ↓gI_7, ↓gI_8, ↓gI_9, ↓gI_10, ↓gR_0, ↓gR_1, ↓gR_2, ↓gR_3, ↓gR_4, ↓gR_5, ↓gR_6, ↓gR_7, ↓gR_8, ↓gR_9, ↓gR_10, ↓sL_0, ↓sL_1, ↓sL_2, ↓sL_3, ↓sL_4, ↓sL_5, ↓sL_6, ↓sL_7, ↓sL_8, ↓sL_9, ↓sL_10, ↓rrf_si, ↓rrf_sg, ↓shO_si, ↓shO_sg, ↓shO_sr, ↓shA_si, ↓shA_sg, ↓shA_sr, ↓pAs_0, ↓pAs_i, ↓pAs_r, stk_n, stk_i, stk_l, stk_r, List.nil_append, List.cons_append, true_and, and_true, true_or, or_true, Nat.zero_add, dp_s, Nat.reduceAdd, le8_0, le8_1, le8_2, le8_3, le8_4, le8_5, le8_6, le8_7, le8_8, Classical.not_not, aT40, aT41, aT42, aT44, aT54, aT58, aT59, rT54, rT58, rT59, reduceIte, Nat.reduceEqDiff, qn_42, qn_44, true_implies, not_true_eq_false, not_false_eq_true, false_implies, le_T, nT (show n0 < 2147483648 by omega)]
    exact ⟨fun _ => hk M (h.congr (fun j hj => by unfold rst; rw [if_pos hj])) On.rf_, fun c => absurd (Int.le_refl _) c⟩
  | succ m ih =>
    intro i M z4 z5 hi h hb hk
    cases hs : sp i with
    | none =>
      have h1 := ih (i + 1) M z4 z5 (by omega) (by rw [rst_n hs]; exact h) hb hk
      rw [nE_s, hs] at h1
      exact h1
    | some p =>
      have hp := hok i p (by omega) hs
      obtain ⟨t1, t2, t3⟩ := tbL_get sp hs (by omega)
      have hlt : nE sp i + 1 ≤ n0 := by
        have := nE_mono sp (show i + 1 ≤ 48 by omega)
        rw [nE_s, hs] at this
        simp only [Option.isSome_some, if_true] at this
        omega
      have gm : ∀ {j v : Nat}, (tbL sp)[j]? = some v → ((tbL sp).map nI)[j]? = some (nI v) := fun {j v} h => by rw [List.getElem?_map, h]; rfl
      have fin : ∀ M' z4 z5, EnC M' a s (ups (rst sp i) i (some p)) none → On [a, s] M M' → X (d + 2) 35 111 [some (.inr (some a)), some (.inr (some f)), some (.inl (nI n0)), some (.inl (nI (nE sp i))), z4, z5] [] M' k := by
        intro M' z4 z5 h' o
        have h1 := ih (i + 1) M' z4 z5 (by omega) (by rw [rst_s hs]; exact h') (hb.keep o (by simp [n1, n2]) (by simp [n3, n4])) (fun M2 h2 o2 => hk M2 h2 (o.trans o2 (fun _ x => x)))
        rw [nE_s, hs] at h1
        refine vc_X 30 _ _ _ _ _ _ _ ?_
        simp only [↓v35_0, ↓v35_1, ↓v35_4, ↓v35_5, ↓v35_6, ↓v35_9, ↓v35_11, ↓v35_14, ↓v35_15, ↓v35_16, ↓v35_17, ↓v35_18, ↓v35_19, ↓v35_22, ↓v35_23, ↓v35_24, ↓v35_25, ↓v35_26, ↓v35_27, ↓v35_28, ↓v35_31, ↓v35_33, ↓v35_34, ↓v35_35, ↓v35_36, ↓v35_37, ↓v35_38, ↓v35_39, ↓v35_42, ↓v35_44, ↓v35_46, ↓v35_49, ↓v35_52, ↓v35_53, ↓v35_54, ↓v35_55, ↓v35_56, ↓v35_57, ↓v35_58, ↓v35_59, ↓v35_62, ↓v35_64, ↓v35_67, ↓v35_70, ↓v35_72, ↓v35_75, ↓v35_78, ↓v35_80, ↓v35_83, ↓v35_85, ↓v35_87, ↓v35_90, ↓v35_91, ↓v35_92, ↓v35_93, ↓v35_94, ↓v35_95, ↓v35_96, ↓v35_97, ↓v35_100, ↓v35_102, ↓v35_104, ↓v35_105, ↓v35_107, ↓v35_108, ↓v35_111, ↓v35_114, ↓v35_117, ↓qI_c, ↓qL_c, ↓qR_c, ↓pA_o, ↓qC_i, ↓qC_r, ↓oA_s, ↓gI_0, ↓gI_1, ↓gI_2, ↓gI_3, ↓gI_4, ↓gI_5, ↓gI_6, ↓gI_7, ↓gI_8, ↓gI_9, ↓gI_10, ↓gR_0, ↓gR_1, ↓gR_2, ↓gR_3, ↓gR_4, ↓gR_5, ↓gR_6, ↓gR_7, ↓gR_8, ↓gR_9, ↓gR_10, ↓sL_0, ↓sL_1, ↓sL_2, ↓sL_3, ↓sL_4, ↓sL_5, ↓sL_6, ↓sL_7, ↓sL_8, ↓sL_9, ↓sL_10, ↓rrf_si, ↓rrf_sg, ↓shO_si, ↓shO_sg, ↓shO_sr, ↓shA_si, ↓shA_sg, ↓shA_sr, ↓pAs_0, ↓pAs_i, ↓pAs_r, stk_n, stk_i, stk_l, stk_r, List.nil_append, List.cons_append, true_and, and_true, true_or, or_true, Nat.zero_add, dp_s, Nat.reduceAdd, le8_0, le8_1, le8_2, le8_3, le8_4, le8_5, le8_6, le8_7, le8_8, Classical.not_not, aT40, aT41, aT42, aT44, aT54, aT58, aT59, rT54, rT58, rT59, reduceIte, Nat.reduceEqDiff, qn_42, qn_44, true_implies, not_true_eq_false, not_false_eq_true, false_implies, nI_1]
        exact h1
      refine vc_X 30 _ _ _ _ _ _ _ ?_
      simp only [↓v35_0, ↓v35_1, ↓v35_4, ↓v35_5, ↓v35_6, ↓v35_9, ↓v35_11, ↓v35_14, ↓v35_15, ↓v35_16, ↓v35_17, ↓v35_18, ↓v35_19, ↓v35_22, ↓v35_23, ↓v35_24, ↓v35_25, ↓v35_26, ↓v35_27, ↓v35_28, ↓v35_31, ↓v35_33, ↓v35_34, ↓v35_35, ↓v35_36, ↓v35_37, ↓v35_38, ↓v35_39, ↓v35_42, ↓v35_44, ↓v35_46, ↓v35_49, ↓v35_52, ↓v35_53, ↓v35_54, ↓v35_55, ↓v35_56, ↓v35_57, ↓v35_58, ↓v35_59, ↓v35_62, ↓v35_64, ↓v35_67, ↓v35_70, ↓v35_72, ↓v35_75, ↓v35_78, ↓v35_80, ↓v35_83, ↓v35_85, ↓v35_87, ↓v35_90, ↓v35_91, ↓v35_92, ↓v35_93, ↓v35_94, ↓v35_95, ↓v35_96, ↓v35_97, ↓v35_100, ↓v35_102, ↓v35_104, ↓v35_105, ↓v35_107, ↓v35_108, ↓v35_111, ↓v35_114, ↓v35_117, ↓qI_c, ↓qL_c, ↓qR_c, ↓pA_o, ↓qC_i, ↓qC_r, ↓oA_s, ↓gI_0, ↓gI_1, ↓gI_2, ↓gI_3, ↓gI_4, ↓gI_5, ↓gI_6, ↓gI_7, ↓gI_8, ↓gI_9, ↓gI_10, ↓gR_0, ↓gR_1, ↓gR_2, ↓gR_3, ↓gR_4, ↓gR_5, ↓gR_6, ↓gR_7, ↓gR_8, ↓gR_9, ↓gR_10, ↓sL_0, ↓sL_1, ↓sL_2, ↓sL_3, ↓sL_4, ↓sL_5, ↓sL_6, ↓sL_7, ↓sL_8, ↓sL_9, ↓sL_10, ↓rrf_si, ↓rrf_sg, ↓shO_si, ↓shO_sg, ↓shO_sr, ↓shA_si, ↓shA_sg, ↓shA_sr, ↓pAs_0, ↓pAs_i, ↓pAs_r, stk_n, stk_i, stk_l, stk_r, List.nil_append, List.cons_append, true_and, and_true, true_or, or_true, Nat.zero_add, dp_s, Nat.reduceAdd, le8_0, le8_1, le8_2, le8_3, le8_4, le8_5, le8_6, le8_7, le8_8, Classical.not_not, aT40, aT41, aT42, aT44, aT54, aT58, aT59, rT54, rT58, rT59, reduceIte, Nat.reduceEqDiff, qn_42, qn_44, true_implies, not_true_eq_false, not_false_eq_true, false_implies, le_T, nT (show n0 < 2147483648 by omega), nT (show nE sp i < 2147483648 by omega), ↓shO_of hb.1.1]
      refine ⟨fun c => by omega, fun _ => ?_⟩
      rw [n_2, n_3, pk_mul, nI_add]
      refine k36j hb (gm t2) ⟨_, rfl, ?_⟩
      refine vc_X 30 _ _ _ _ _ _ _ ?_
      simp only [↓v35_0, ↓v35_1, ↓v35_4, ↓v35_5, ↓v35_6, ↓v35_9, ↓v35_11, ↓v35_14, ↓v35_15, ↓v35_16, ↓v35_17, ↓v35_18, ↓v35_19, ↓v35_22, ↓v35_23, ↓v35_24, ↓v35_25, ↓v35_26, ↓v35_27, ↓v35_28, ↓v35_31, ↓v35_33, ↓v35_34, ↓v35_35, ↓v35_36, ↓v35_37, ↓v35_38, ↓v35_39, ↓v35_42, ↓v35_44, ↓v35_46, ↓v35_49, ↓v35_52, ↓v35_53, ↓v35_54, ↓v35_55, ↓v35_56, ↓v35_57, ↓v35_58, ↓v35_59, ↓v35_62, ↓v35_64, ↓v35_67, ↓v35_70, ↓v35_72, ↓v35_75, ↓v35_78, ↓v35_80, ↓v35_83, ↓v35_85, ↓v35_87, ↓v35_90, ↓v35_91, ↓v35_92, ↓v35_93, ↓v35_94, ↓v35_95, ↓v35_96, ↓v35_97, ↓v35_100, ↓v35_102, ↓v35_104, ↓v35_105, ↓v35_107, ↓v35_108, ↓v35_111, ↓v35_114, ↓v35_117, ↓qI_c, ↓qL_c, ↓qR_c, ↓pA_o, ↓qC_i, ↓qC_r, ↓oA_s, ↓gI_0, ↓gI_1, ↓gI_2, ↓gI_3, ↓gI_4, ↓gI_5, ↓gI_6, ↓gI_7, ↓gI_8, ↓gI_9, ↓gI_10, ↓gR_0, ↓gR_1, ↓gR_2, ↓gR_3, ↓gR_4, ↓gR_5, ↓gR_6, ↓gR_7, ↓gR_8, ↓gR_9, ↓gR_10, ↓sL_0, ↓sL_1, ↓sL_2, ↓sL_3, ↓sL_4, ↓sL_5, ↓sL_6, ↓sL_7, ↓sL_8, ↓sL_9, ↓sL_10, ↓rrf_si, ↓rrf_sg, ↓shO_si, ↓shO_sg, ↓shO_sr, ↓shA_si, ↓shA_sg, ↓shA_sr, ↓pAs_0, ↓pAs_i, ↓pAs_r, stk_n, stk_i, stk_l, stk_r, List.nil_append, List.cons_append, true_and, and_true, true_or, or_true, Nat.zero_add, dp_s, Nat.reduceAdd, le8_0, le8_1, le8_2, le8_3, le8_4, le8_5, le8_6, le8_7, le8_8, Classical.not_not, aT40, aT41, aT42, aT44, aT54, aT58, aT59, rT54, rT58, rT59, reduceIte, Nat.reduceEqDiff, qn_42, qn_44, true_implies, not_true_eq_false, not_false_eq_true, false_implies, ↓shO_of hb.1.1]
      rw [n_3, pk_mul, nI_add]
      refine k36j hb (gm t3) ⟨_, rfl, ?_⟩
      by_cases hp2 : p = 255
      · rw [if_pos hp2, if_pos hp2]
        have e255 : ((255 : Int32) = nI 255) = True := eq_self _
        refine vc_X 30 _ _ _ _ _ _ _ ?_
        simp only [↓v35_0, ↓v35_1, ↓v35_4, ↓v35_5, ↓v35_6, ↓v35_9, ↓v35_11, ↓v35_14, ↓v35_15, ↓v35_16, ↓v35_17, ↓v35_18, ↓v35_19, ↓v35_22, ↓v35_23, ↓v35_24, ↓v35_25, ↓v35_26, ↓v35_27, ↓v35_28, ↓v35_31, ↓v35_33, ↓v35_34, ↓v35_35, ↓v35_36, ↓v35_37, ↓v35_38, ↓v35_39, ↓v35_42, ↓v35_44, ↓v35_46, ↓v35_49, ↓v35_52, ↓v35_53, ↓v35_54, ↓v35_55, ↓v35_56, ↓v35_57, ↓v35_58, ↓v35_59, ↓v35_62, ↓v35_64, ↓v35_67, ↓v35_70, ↓v35_72, ↓v35_75, ↓v35_78, ↓v35_80, ↓v35_83, ↓v35_85, ↓v35_87, ↓v35_90, ↓v35_91, ↓v35_92, ↓v35_93, ↓v35_94, ↓v35_95, ↓v35_96, ↓v35_97, ↓v35_100, ↓v35_102, ↓v35_104, ↓v35_105, ↓v35_107, ↓v35_108, ↓v35_111, ↓v35_114, ↓v35_117, ↓qI_c, ↓qL_c, ↓qR_c, ↓pA_o, ↓qC_i, ↓qC_r, ↓oA_s, ↓gI_0, ↓gI_1, ↓gI_2, ↓gI_3, ↓gI_4, ↓gI_5, ↓gI_6, ↓gI_7, ↓gI_8, ↓gI_9, ↓gI_10, ↓gR_0, ↓gR_1, ↓gR_2, ↓gR_3, ↓gR_4, ↓gR_5, ↓gR_6, ↓gR_7, ↓gR_8, ↓gR_9, ↓gR_10, ↓sL_0, ↓sL_1, ↓sL_2, ↓sL_3, ↓sL_4, ↓sL_5, ↓sL_6, ↓sL_7, ↓sL_8, ↓sL_9, ↓sL_10, ↓rrf_si, ↓rrf_sg, ↓shO_si, ↓shO_sg, ↓shO_sr, ↓shA_si, ↓shA_sg, ↓shA_sr, ↓pAs_0, ↓pAs_i, ↓pAs_r, stk_n, stk_i, stk_l, stk_r, List.nil_append, List.cons_append, true_and, and_true, true_or, or_true, Nat.zero_add, dp_s, Nat.reduceAdd, le8_0, le8_1, le8_2, le8_3, le8_4, le8_5, le8_6, le8_7, le8_8, Classical.not_not, aT40, aT41, aT42, aT44, aT54, aT58, aT59, rT54, rT58, rT59, reduceIte, Nat.reduceEqDiff, qn_42, qn_44, true_implies, not_true_eq_false, not_false_eq_true, false_implies, n_255, not_true, ↓shO_of hb.1.1]
        rw [n_1, n_3, pk_mul, nI_add]
        refine k36j hb (gm t1) ⟨_, rfl, ?_⟩
        refine vc_X 30 _ _ _ _ _ _ _ ?_
        simp only [↓v35_0, ↓v35_1, ↓v35_4, ↓v35_5, ↓v35_6, ↓v35_9, ↓v35_11, ↓v35_14, ↓v35_15, ↓v35_16, ↓v35_17, ↓v35_18, ↓v35_19, ↓v35_22, ↓v35_23, ↓v35_24, ↓v35_25, ↓v35_26, ↓v35_27, ↓v35_28, ↓v35_31, ↓v35_33, ↓v35_34, ↓v35_35, ↓v35_36, ↓v35_37, ↓v35_38, ↓v35_39, ↓v35_42, ↓v35_44, ↓v35_46, ↓v35_49, ↓v35_52, ↓v35_53, ↓v35_54, ↓v35_55, ↓v35_56, ↓v35_57, ↓v35_58, ↓v35_59, ↓v35_62, ↓v35_64, ↓v35_67, ↓v35_70, ↓v35_72, ↓v35_75, ↓v35_78, ↓v35_80, ↓v35_83, ↓v35_85, ↓v35_87, ↓v35_90, ↓v35_91, ↓v35_92, ↓v35_93, ↓v35_94, ↓v35_95, ↓v35_96, ↓v35_97, ↓v35_100, ↓v35_102, ↓v35_104, ↓v35_105, ↓v35_107, ↓v35_108, ↓v35_111, ↓v35_114, ↓v35_117, ↓qI_c, ↓qL_c, ↓qR_c, ↓pA_o, ↓qC_i, ↓qC_r, ↓oA_s, ↓gI_0, ↓gI_1, ↓gI_2, ↓gI_3, ↓gI_4, ↓gI_5, ↓gI_6, ↓gI_7, ↓gI_8, ↓gI_9, ↓gI_10, ↓gR_0, ↓gR_1, ↓gR_2, ↓gR_3, ↓gR_4, ↓gR_5, ↓gR_6, ↓gR_7, ↓gR_8, ↓gR_9, ↓gR_10, ↓sL_0, ↓sL_1, ↓sL_2, ↓sL_3, ↓sL_4, ↓sL_5, ↓sL_6, ↓sL_7, ↓sL_8, ↓sL_9, ↓sL_10, ↓rrf_si, ↓rrf_sg, ↓shO_si, ↓shO_sg, ↓shO_sr, ↓shA_si, ↓shA_sg, ↓shA_sr, ↓pAs_0, ↓pAs_i, ↓pAs_r, stk_n, stk_i, stk_l, stk_r, List.nil_append, List.cons_append, true_and, and_true, true_or, or_true, Nat.zero_add, dp_s, Nat.reduceAdd, le8_0, le8_1, le8_2, le8_3, le8_4, le8_5, le8_6, le8_7, le8_8, Classical.not_not, aT40, aT41, aT42, aT44, aT54, aT58, aT59, rT54, rT58, rT59, reduceIte, Nat.reduceEqDiff, qn_42, qn_44, true_implies, not_true_eq_false, not_false_eq_true, false_implies, ↓shO_of h.1.1]
        rw [show (-2 : Int32) = spI (some p) by rw [hp2]; rfl]
        refine k38 h (by omega) hp (fun M' h' o => ⟨rfl, ?_⟩)
        refine vc_X 30 _ _ _ _ _ _ _ ?_
        simp only [↓v35_0, ↓v35_1, ↓v35_4, ↓v35_5, ↓v35_6, ↓v35_9, ↓v35_11, ↓v35_14, ↓v35_15, ↓v35_16, ↓v35_17, ↓v35_18, ↓v35_19, ↓v35_22, ↓v35_23, ↓v35_24, ↓v35_25, ↓v35_26, ↓v35_27, ↓v35_28, ↓v35_31, ↓v35_33, ↓v35_34, ↓v35_35, ↓v35_36, ↓v35_37, ↓v35_38, ↓v35_39, ↓v35_42, ↓v35_44, ↓v35_46, ↓v35_49, ↓v35_52, ↓v35_53, ↓v35_54, ↓v35_55, ↓v35_56, ↓v35_57, ↓v35_58, ↓v35_59, ↓v35_62, ↓v35_64, ↓v35_67, ↓v35_70, ↓v35_72, ↓v35_75, ↓v35_78, ↓v35_80, ↓v35_83, ↓v35_85, ↓v35_87, ↓v35_90, ↓v35_91, ↓v35_92, ↓v35_93, ↓v35_94, ↓v35_95, ↓v35_96, ↓v35_97, ↓v35_100, ↓v35_102, ↓v35_104, ↓v35_105, ↓v35_107, ↓v35_108, ↓v35_111, ↓v35_114, ↓v35_117, ↓qI_c, ↓qL_c, ↓qR_c, ↓pA_o, ↓qC_i, ↓qC_r, ↓oA_s, ↓gI_0, ↓gI_1, ↓gI_2, ↓gI_3, ↓gI_4, ↓gI_5, ↓gI_6, ↓gI_7, ↓gI_8, ↓gI_9, ↓gI_10, ↓gR_0, ↓gR_1, ↓gR_2, ↓gR_3, ↓gR_4, ↓gR_5, ↓gR_6, ↓gR_7, ↓gR_8, ↓gR_9, ↓gR_10, ↓sL_0, ↓sL_1, ↓sL_2, ↓sL_3, ↓sL_4, ↓sL_5, ↓sL_6, ↓sL_7, ↓sL_8, ↓sL_9, ↓sL_10, ↓rrf_si, ↓rrf_sg, ↓shO_si, ↓shO_sg, ↓shO_sr, ↓shA_si, ↓shA_sg, ↓shA_sr, ↓pAs_0, ↓pAs_i, ↓pAs_r, stk_n, stk_i, stk_l, stk_r, List.nil_append, List.cons_append, true_and, and_true, true_or, or_true, Nat.zero_add, dp_s, Nat.reduceAdd, le8_0, le8_1, le8_2, le8_3, le8_4, le8_5, le8_6, le8_7, le8_8, Classical.not_not, aT40, aT41, aT42, aT44, aT54, aT58, aT59, rT54, rT58, rT59, reduceIte, Nat.reduceEqDiff, qn_42, qn_44, true_implies, not_true_eq_false, not_false_eq_true, false_implies]
        exact fin M' _ _ h' o
      · rw [if_neg hp2, if_neg hp2]
        have e255 : (nI (p / 16) = nI 255) = False := eq_false (fun q => by rw [nI_eq (by omega) (by omega)] at q; omega)
        refine vc_X 30 _ _ _ _ _ _ _ ?_
        simp only [↓v35_0, ↓v35_1, ↓v35_4, ↓v35_5, ↓v35_6, ↓v35_9, ↓v35_11, ↓v35_14, ↓v35_15, ↓v35_16, ↓v35_17, ↓v35_18, ↓v35_19, ↓v35_22, ↓v35_23, ↓v35_24, ↓v35_25, ↓v35_26, ↓v35_27, ↓v35_28, ↓v35_31, ↓v35_33, ↓v35_34, ↓v35_35, ↓v35_36, ↓v35_37, ↓v35_38, ↓v35_39, ↓v35_42, ↓v35_44, ↓v35_46, ↓v35_49, ↓v35_52, ↓v35_53, ↓v35_54, ↓v35_55, ↓v35_56, ↓v35_57, ↓v35_58, ↓v35_59, ↓v35_62, ↓v35_64, ↓v35_67, ↓v35_70, ↓v35_72, ↓v35_75, ↓v35_78, ↓v35_80, ↓v35_83, ↓v35_85, ↓v35_87, ↓v35_90, ↓v35_91, ↓v35_92, ↓v35_93, ↓v35_94, ↓v35_95, ↓v35_96, ↓v35_97, ↓v35_100, ↓v35_102, ↓v35_104, ↓v35_105, ↓v35_107, ↓v35_108, ↓v35_111, ↓v35_114, ↓v35_117, ↓qI_c, ↓qL_c, ↓qR_c, ↓pA_o, ↓qC_i, ↓qC_r, ↓oA_s, ↓gI_0, ↓gI_1, ↓gI_2, ↓gI_3, ↓gI_4, ↓gI_5, ↓gI_6, ↓gI_7, ↓gI_8, ↓gI_9, ↓gI_10, ↓gR_0, ↓gR_1, ↓gR_2, ↓gR_3, ↓gR_4, ↓gR_5, ↓gR_6, ↓gR_7, ↓gR_8, ↓gR_9, ↓gR_10, ↓sL_0, ↓sL_1, ↓sL_2, ↓sL_3, ↓sL_4, ↓sL_5, ↓sL_6, ↓sL_7, ↓sL_8, ↓sL_9, ↓sL_10, ↓rrf_si, ↓rrf_sg, ↓shO_si, ↓shO_sg, ↓shO_sr, ↓shA_si, ↓shA_sg, ↓shA_sr, ↓pAs_0, ↓pAs_i, ↓pAs_r, stk_n, stk_i, stk_l, stk_r, List.nil_append, List.cons_append, true_and, and_true, true_or, or_true, Nat.zero_add, dp_s, Nat.reduceAdd, le8_0, le8_1, le8_2, le8_3, le8_4, le8_5, le8_6, le8_7, le8_8, Classical.not_not, aT40, aT41, aT42, aT44, aT54, aT58, aT59, rT54, rT58, rT59, reduceIte, Nat.reduceEqDiff, qn_42, qn_44, true_implies, not_true_eq_false, not_false_eq_true, false_implies, n_255, e255]
        refine k40 (fun c => ⟨1, rfl, ?_⟩) (fun c => absurd (inB_n (by omega) (by omega)) c)
        refine vc_X 30 _ _ _ _ _ _ _ ?_
        simp only [↓v35_0, ↓v35_1, ↓v35_4, ↓v35_5, ↓v35_6, ↓v35_9, ↓v35_11, ↓v35_14, ↓v35_15, ↓v35_16, ↓v35_17, ↓v35_18, ↓v35_19, ↓v35_22, ↓v35_23, ↓v35_24, ↓v35_25, ↓v35_26, ↓v35_27, ↓v35_28, ↓v35_31, ↓v35_33, ↓v35_34, ↓v35_35, ↓v35_36, ↓v35_37, ↓v35_38, ↓v35_39, ↓v35_42, ↓v35_44, ↓v35_46, ↓v35_49, ↓v35_52, ↓v35_53, ↓v35_54, ↓v35_55, ↓v35_56, ↓v35_57, ↓v35_58, ↓v35_59, ↓v35_62, ↓v35_64, ↓v35_67, ↓v35_70, ↓v35_72, ↓v35_75, ↓v35_78, ↓v35_80, ↓v35_83, ↓v35_85, ↓v35_87, ↓v35_90, ↓v35_91, ↓v35_92, ↓v35_93, ↓v35_94, ↓v35_95, ↓v35_96, ↓v35_97, ↓v35_100, ↓v35_102, ↓v35_104, ↓v35_105, ↓v35_107, ↓v35_108, ↓v35_111, ↓v35_114, ↓v35_117, ↓qI_c, ↓qL_c, ↓qR_c, ↓pA_o, ↓qC_i, ↓qC_r, ↓oA_s, ↓gI_0, ↓gI_1, ↓gI_2, ↓gI_3, ↓gI_4, ↓gI_5, ↓gI_6, ↓gI_7, ↓gI_8, ↓gI_9, ↓gI_10, ↓gR_0, ↓gR_1, ↓gR_2, ↓gR_3, ↓gR_4, ↓gR_5, ↓gR_6, ↓gR_7, ↓gR_8, ↓gR_9, ↓gR_10, ↓sL_0, ↓sL_1, ↓sL_2, ↓sL_3, ↓sL_4, ↓sL_5, ↓sL_6, ↓sL_7, ↓sL_8, ↓sL_9, ↓sL_10, ↓rrf_si, ↓rrf_sg, ↓shO_si, ↓shO_sg, ↓shO_sr, ↓shA_si, ↓shA_sg, ↓shA_sr, ↓pAs_0, ↓pAs_i, ↓pAs_r, stk_n, stk_i, stk_l, stk_r, List.nil_append, List.cons_append, true_and, and_true, true_or, or_true, Nat.zero_add, dp_s, Nat.reduceAdd, le8_0, le8_1, le8_2, le8_3, le8_4, le8_5, le8_6, le8_7, le8_8, Classical.not_not, aT40, aT41, aT42, aT44, aT54, aT58, aT59, rT54, rT58, rT59, reduceIte, Nat.reduceEqDiff, qn_42, qn_44, true_implies, not_true_eq_false, not_false_eq_true, false_implies, i10, lt_T, le_T, T_0, T_16, nT (show p % 16 < 2147483648 by omega), ↓shO_of hb.1.1]
        refine ⟨fun c => by omega, fun _ => ⟨fun c => by omega, fun _ => ?_⟩⟩
        rw [n_1, n_3, pk_mul, nI_add]
        refine k36j hb (gm t1) ⟨_, rfl, ?_⟩
        refine vc_X 30 _ _ _ _ _ _ _ ?_
        simp only [↓v35_0, ↓v35_1, ↓v35_4, ↓v35_5, ↓v35_6, ↓v35_9, ↓v35_11, ↓v35_14, ↓v35_15, ↓v35_16, ↓v35_17, ↓v35_18, ↓v35_19, ↓v35_22, ↓v35_23, ↓v35_24, ↓v35_25, ↓v35_26, ↓v35_27, ↓v35_28, ↓v35_31, ↓v35_33, ↓v35_34, ↓v35_35, ↓v35_36, ↓v35_37, ↓v35_38, ↓v35_39, ↓v35_42, ↓v35_44, ↓v35_46, ↓v35_49, ↓v35_52, ↓v35_53, ↓v35_54, ↓v35_55, ↓v35_56, ↓v35_57, ↓v35_58, ↓v35_59, ↓v35_62, ↓v35_64, ↓v35_67, ↓v35_70, ↓v35_72, ↓v35_75, ↓v35_78, ↓v35_80, ↓v35_83, ↓v35_85, ↓v35_87, ↓v35_90, ↓v35_91, ↓v35_92, ↓v35_93, ↓v35_94, ↓v35_95, ↓v35_96, ↓v35_97, ↓v35_100, ↓v35_102, ↓v35_104, ↓v35_105, ↓v35_107, ↓v35_108, ↓v35_111, ↓v35_114, ↓v35_117, ↓qI_c, ↓qL_c, ↓qR_c, ↓pA_o, ↓qC_i, ↓qC_r, ↓oA_s, ↓gI_0, ↓gI_1, ↓gI_2, ↓gI_3, ↓gI_4, ↓gI_5, ↓gI_6, ↓gI_7, ↓gI_8, ↓gI_9, ↓gI_10, ↓gR_0, ↓gR_1, ↓gR_2, ↓gR_3, ↓gR_4, ↓gR_5, ↓gR_6, ↓gR_7, ↓gR_8, ↓gR_9, ↓gR_10, ↓sL_0, ↓sL_1, ↓sL_2, ↓sL_3, ↓sL_4, ↓sL_5, ↓sL_6, ↓sL_7, ↓sL_8, ↓sL_9, ↓sL_10, ↓rrf_si, ↓rrf_sg, ↓shO_si, ↓shO_sg, ↓shO_sr, ↓shA_si, ↓shA_sg, ↓shA_sr, ↓pAs_0, ↓pAs_i, ↓pAs_r, stk_n, stk_i, stk_l, stk_r, List.nil_append, List.cons_append, true_and, and_true, true_or, or_true, Nat.zero_add, dp_s, Nat.reduceAdd, le8_0, le8_1, le8_2, le8_3, le8_4, le8_5, le8_6, le8_7, le8_8, Classical.not_not, aT40, aT41, aT42, aT44, aT54, aT58, aT59, rT54, rT58, rT59, reduceIte, Nat.reduceEqDiff, qn_42, qn_44, true_implies, not_true_eq_false, not_false_eq_true, false_implies, ↓shO_of h.1.1]
        rw [n_16, pk_mul, nI_add, show nI (p / 16 * 16 + p % 16) = spI (some p) by show _ = (if p = 255 then (-2 : Int32) else nI p); rw [if_neg hp2]; congr 1; omega]
        refine k38 h (by omega) hp (fun M' h' o => ⟨rfl, ?_⟩)
        exact fin M' _ _ h' o
theorem k35 {d : Nat} {M : Mm} {k : mQ} {a s f c N : Nat} {sp : Nat → Option Nat} (n1 : f ≠ a) (n2 : f ≠ s) (n3 : c ≠ a) (n4 : c ≠ s) (hok : spOK sp) (h : En M a s) (hb : BC M f c N ((tbL sp).map nI)) (hk : ∀ M', EnC M' a s sp none → On [a, s] M M' → k none M') : XC (d + 3) 35 [.inr (some a), .inr (some f)] M k := by
  refine xc ?_
  show X (d + 2) 35 0 [some (.inr (some a)), some (.inr (some f)), none, none, none, none] [] M k
  refine vc_X 30 _ _ _ _ _ _ _ ?_
  simp only [↓v35_0, ↓v35_1, ↓v35_4, ↓v35_5, ↓v35_6, ↓v35_9, ↓v35_11, ↓v35_14, ↓v35_15, ↓v35_16, ↓v35_17, ↓v35_18, ↓v35_19, ↓v35_22, ↓v35_23, ↓v35_24, ↓v35_25, ↓v35_26, ↓v35_27, ↓v35_28, ↓v35_31, ↓v35_33, ↓v35_34, ↓v35_35, ↓v35_36, ↓v35_37, ↓v35_38, ↓v35_39, ↓v35_42, ↓v35_44, ↓v35_46, ↓v35_49, ↓v35_52, ↓v35_53, ↓v35_54, ↓v35_55, ↓v35_56, ↓v35_57, ↓v35_58, ↓v35_59, ↓v35_62, ↓v35_64, ↓v35_67, ↓v35_70, ↓v35_72, ↓v35_75, ↓v35_78, ↓v35_80, ↓v35_83, ↓v35_85, ↓v35_87, ↓v35_90, ↓v35_91, ↓v35_92, ↓v35_93, ↓v35_94, ↓v35_95, ↓v35_96, ↓v35_97, ↓v35_100, ↓v35_102, ↓v35_104, ↓v35_105, ↓v35_107, ↓v35_108, ↓v35_111, ↓v35_114, ↓v35_117, ↓qI_c, ↓qL_c, ↓qR_c, ↓pA_o, ↓qC_i, ↓qC_r, ↓oA_s, ↓gI_0, ↓gI_1, ↓gI_2, ↓gI_3, ↓gI_4, ↓gI_5, ↓gI_6, ↓gI_7, ↓gI_8, ↓gI_9, ↓gI_10, ↓gR_0, ↓gR_1, ↓gR_2, ↓gR_3, ↓gR_4, ↓gR_5, ↓gR_6, ↓gR_7, ↓gR_8, ↓gR_9, ↓gR_10, ↓sL_0, ↓sL_1, ↓sL_2, ↓sL_3, ↓sL_4, ↓sL_5, ↓sL_6, ↓sL_7, ↓sL_8, ↓sL_9, ↓sL_10, ↓rrf_si, ↓rrf_sg, ↓shO_si, ↓shO_sg, ↓shO_sr, ↓shA_si, ↓shA_sg, ↓shA_sr, ↓pAs_0, ↓pAs_i, ↓pAs_r, stk_n, stk_i, stk_l, stk_r, List.nil_append, List.cons_append, true_and, and_true, true_or, or_true, Nat.zero_add, dp_s, Nat.reduceAdd, le8_0, le8_1, le8_2, le8_3, le8_4, le8_5, le8_6, le8_7, le8_8, Classical.not_not, aT40, aT41, aT42, aT44, aT54, aT58, aT59, rT54, rT58, rT59, reduceIte, Nat.reduceEqDiff, qn_42, qn_44, true_implies, not_true_eq_false, not_false_eq_true, false_implies, ↓shO_of h.1]
  refine k11 h (fun M1 h1 o1 => ⟨rfl, ?_⟩)
  have hb1 := hb.keep o1 (by simp [n1, n2]) (by simp [n3, n4])
  refine vc_X 30 _ _ _ _ _ _ _ ?_
  simp only [↓v35_0, ↓v35_1, ↓v35_4, ↓v35_5, ↓v35_6, ↓v35_9, ↓v35_11, ↓v35_14, ↓v35_15, ↓v35_16, ↓v35_17, ↓v35_18, ↓v35_19, ↓v35_22, ↓v35_23, ↓v35_24, ↓v35_25, ↓v35_26, ↓v35_27, ↓v35_28, ↓v35_31, ↓v35_33, ↓v35_34, ↓v35_35, ↓v35_36, ↓v35_37, ↓v35_38, ↓v35_39, ↓v35_42, ↓v35_44, ↓v35_46, ↓v35_49, ↓v35_52, ↓v35_53, ↓v35_54, ↓v35_55, ↓v35_56, ↓v35_57, ↓v35_58, ↓v35_59, ↓v35_62, ↓v35_64, ↓v35_67, ↓v35_70, ↓v35_72, ↓v35_75, ↓v35_78, ↓v35_80, ↓v35_83, ↓v35_85, ↓v35_87, ↓v35_90, ↓v35_91, ↓v35_92, ↓v35_93, ↓v35_94, ↓v35_95, ↓v35_96, ↓v35_97, ↓v35_100, ↓v35_102, ↓v35_104, ↓v35_105, ↓v35_107, ↓v35_108, ↓v35_111, ↓v35_114, ↓v35_117, ↓qI_c, ↓qL_c, ↓qR_c, ↓pA_o, ↓qC_i, ↓qC_r, ↓oA_s, ↓gI_0, ↓gI_1, ↓gI_2, ↓gI_3, ↓gI_4, ↓gI_5, ↓gI_6, ↓gI_7, ↓gI_8, ↓gI_9, ↓gI_10, ↓gR_0, ↓gR_1, ↓gR_2, ↓gR_3, ↓gR_4, ↓gR_5, ↓gR_6, ↓gR_7, ↓gR_8, ↓gR_9, ↓gR_10, ↓sL_0, ↓sL_1, ↓sL_2, ↓sL_3, ↓sL_4, ↓sL_5, ↓sL_6, ↓sL_7, ↓sL_8, ↓sL_9, ↓sL_10, ↓rrf_si, ↓rrf_sg, ↓shO_si, ↓shO_sg, ↓shO_sr, ↓shA_si, ↓shA_sg, ↓shA_sr, ↓pAs_0, ↓pAs_i, ↓pAs_r, stk_n, stk_i, stk_l, stk_r, List.nil_append, List.cons_append, true_and, and_true, true_or, or_true, Nat.zero_add, dp_s, Nat.reduceAdd, le8_0, le8_1, le8_2, le8_3, le8_4, le8_5, le8_6, le8_7, le8_8, Classical.not_not, aT40, aT41, aT42, aT44, aT54, aT58, aT59, rT54, rT58, rT59, reduceIte, Nat.reduceEqDiff, qn_42, qn_44, true_implies, not_true_eq_false, not_false_eq_true, false_implies, ↓shO_of hb1.1.1]
  have hc0 := nE_le sp 48
  have e0 : ((tbL sp).map nI)[0]? = some (nI (nE sp 48)) := by unfold tbL; rw [List.map_cons, List.getElem?_cons_zero]
  generalize hn0 : nE sp 48 = n0 at e0 hc0
  refine k36j (j := 0) hb1 e0 ⟨_, rfl, ?_⟩
  have em : imin (nI n0) 48 = nI n0 := by
    unfold imin
    rw [if_neg (by rw [lt_T, T_48, nT (by omega)]; omega)]
  refine vc_X 30 _ _ _ _ _ _ _ ?_
  simp only [↓v35_0, ↓v35_1, ↓v35_4, ↓v35_5, ↓v35_6, ↓v35_9, ↓v35_11, ↓v35_14, ↓v35_15, ↓v35_16, ↓v35_17, ↓v35_18, ↓v35_19, ↓v35_22, ↓v35_23, ↓v35_24, ↓v35_25, ↓v35_26, ↓v35_27, ↓v35_28, ↓v35_31, ↓v35_33, ↓v35_34, ↓v35_35, ↓v35_36, ↓v35_37, ↓v35_38, ↓v35_39, ↓v35_42, ↓v35_44, ↓v35_46, ↓v35_49, ↓v35_52, ↓v35_53, ↓v35_54, ↓v35_55, ↓v35_56, ↓v35_57, ↓v35_58, ↓v35_59, ↓v35_62, ↓v35_64, ↓v35_67, ↓v35_70, ↓v35_72, ↓v35_75, ↓v35_78, ↓v35_80, ↓v35_83, ↓v35_85, ↓v35_87, ↓v35_90, ↓v35_91, ↓v35_92, ↓v35_93, ↓v35_94, ↓v35_95, ↓v35_96, ↓v35_97, ↓v35_100, ↓v35_102, ↓v35_104, ↓v35_105, ↓v35_107, ↓v35_108, ↓v35_111, ↓v35_114, ↓v35_117, ↓qI_c, ↓qL_c, ↓qR_c, ↓pA_o, ↓qC_i, ↓qC_r, ↓oA_s, ↓gI_0, ↓gI_1, ↓gI_2, ↓gI_3, ↓gI_4, ↓gI_5, ↓gI_6, ↓gI_7, ↓gI_8, ↓gI_9, ↓gI_10, ↓gR_0, ↓gR_1, ↓gR_2, ↓gR_3, ↓gR_4, ↓gR_5, ↓gR_6, ↓gR_7, ↓gR_8, ↓gR_9, ↓gR_10, ↓sL_0, ↓sL_1, ↓sL_2, ↓sL_3, ↓sL_4, ↓sL_5, ↓sL_6, ↓sL_7, ↓sL_8, ↓sL_9, ↓sL_10, ↓rrf_si, ↓rrf_sg, ↓shO_si, ↓shO_sg, ↓shO_sr, ↓shA_si, ↓shA_sg, ↓shA_sr, ↓pAs_0, ↓pAs_i, ↓pAs_r, stk_n, stk_i, stk_l, stk_r, List.nil_append, List.cons_append, true_and, and_true, true_or, or_true, Nat.zero_add, dp_s, Nat.reduceAdd, le8_0, le8_1, le8_2, le8_3, le8_4, le8_5, le8_6, le8_7, le8_8, Classical.not_not, aT40, aT41, aT42, aT44, aT54, aT58, aT59, rT54, rT58, rT59, reduceIte, Nat.reduceEqDiff, qn_42, qn_44, true_implies, not_true_eq_false, not_false_eq_true, false_implies, em]
  have h1' : EnC M1 a s (rst sp 0) none := h1.congr (fun j hj => by unfold rst; rw [if_neg (by omega)])
  exact lop35 n1 n2 n3 n4 hok hn0.symm 48 0 M1 _ _ (by omega) h1' hb1 (fun M2 h2 o2 => hk M2 h2 (o1.trans o2 (fun _ x => x)))
