/-! the reference: records, keys by their places; the pieces of its picture -/
def rcM (ws : List Wm) (n i : Nat) : Bool := match ws[i]? with
  | some w => (match w.r with
    | some q => q.1 == n
    | none => false)
  | none => false
def rwN (ws : List Wm) (n : Nat) : Option Nat := (fst_ (rcM ws n) 0 ws.length).bind (fun i => (ws[i]?).map Wm.n)
theorem rcM_iff {ws : List Wm} {n i : Nat} : rcM ws n i = true ↔ ∃ w q, ws[i]? = some w ∧ w.r = some q ∧ q.1 = n := by
  unfold rcM
  cases hw : ws[i]? with
  | none => exact ⟨fun c => (by cases c), fun ⟨w, q, h, _⟩ => (by cases h)⟩
  | some w =>
    cases hr : w.r with
    | none =>
      show (match w.r with
        | some q => q.1 == n
        | none => false) = true ↔ _
      rw [hr]
      exact ⟨fun c => (by cases c), fun ⟨w2, q, h, h2, _⟩ => (by cases h; rw [hr] at h2; cases h2)⟩
    | some q =>
      show (match w.r with
        | some q => q.1 == n
        | none => false) = true ↔ _
      rw [hr]
      show (q.1 == n) = true ↔ _
      rw [beq_iff_eq]
      exact ⟨fun e => ⟨w, q, rfl, hr, e⟩, fun ⟨w2, q2, h, h2, e⟩ => (by cases h; rw [hr] at h2; cases h2; exact e)⟩
theorem e124 {d : Nat} {M : Mm} {k : mQ} {r n md : Nat} {ws : List Wm} (hs : RS M r) (hw : RWs M r ws) (hl : M.it r 14 = nI ws.length) (hl2 : ws.length ≤ 160) (hN : NbI md ws) (hn : n < 1000000) (hq : ∀ w q, w ∈ ws → w.r = some q → q.1 < 1000000) (hk : k (some (.inl (oI (rwN ws n)))) M) : XC (d + 1) 124 [.inr (some r), .inl (nI n)] M k := by
  have lop : ∀ m i, i + m = ws.length → k (some (.inl (oI ((fst_ (rcM ws n) i m).bind (fun i => (ws[i]?).map Wm.n))))) M → X d 124 2 [some (.inr (some r)), some (.inl (nI n)), some (.inl (nI i))] [] M k := by
    intro m
    induction m with
    | zero =>
      intro i hi hk
      have e : i = ws.length := by omega
      subst e
      refine vc_X 20 _ _ _ _ _ _ _ ?_
      simp only [↓v124_0, ↓v124_1, ↓v124_2, ↓v124_3, ↓v124_4, ↓v124_7, ↓v124_10, ↓v124_11, ↓v124_14, ↓v124_15, ↓v124_16, ↓v124_19, ↓v124_22, ↓v124_23, ↓v124_26, ↓v124_28, ↓v124_29, ↓v124_30, ↓v124_31, ↓v124_32, ↓v124_35, ↓v124_36, ↓v124_39, ↓v124_40, ↓v124_41, ↓v124_42, ↓v124_45, ↓v124_48, ↓v124_49, ↓qI_c, ↓qL_c, ↓qR_c, ↓pA_o, ↓qC_i, ↓qC_r, ↓oA_s, ↓gI_0, ↓gI_1, ↓gI_2, ↓gI_3, ↓gI_4, ↓gI_5, ↓gI_6, ↓gI_7, ↓gI_8, ↓gI_9, ↓gI_10, ↓gR_0, ↓gR_1, ↓gR_2, ↓gR_3, ↓gR_4, ↓gR_5, ↓gR_6, ↓gR_7, ↓gR_8, ↓gR_9, ↓gR_10, ↓sL_0, ↓sL_1, ↓sL_2, ↓sL_3, ↓sL_4, ↓sL_5, ↓sL_6, ↓sL_7, ↓sL_8, ↓sL_9, ↓sL_10, ↓rrf_si, ↓rrf_sg, ↓shO_si, ↓shO_sg, ↓shO_sr, ↓shA_si, ↓shA_sg, ↓shA_sr, ↓pAs_0, ↓pAs_i, ↓pAs_r, stk_n, stk_i, stk_l, stk_r, List.nil_append, List.cons_append, true_and, and_true, true_or, or_true, Nat.zero_add, dp_s, Nat.reduceAdd, le8_0, le8_1, le8_2, le8_3, le8_4, le8_5, le8_6, le8_7, le8_8, Classical.not_not, aT40, aT41, aT42, aT44, aT54, aT58, aT59, rT54, rT58, rT59, reduceIte, Nat.reduceEqDiff, qn_42, qn_44, true_implies, not_true_eq_false, not_false_eq_true, false_implies, le_T, nT (show ws.length < 2147483648 by omega), ↓shO_of hs.1.1, hl, Int.le_refl]
      exact hk
    | succ m ih =>
      intro i hi hk
      have hx : ws[i]? = some ws[i] := List.getElem?_eq_getElem (by omega)
      have hm := List.mem_of_getElem? hx
      obtain ⟨⟨w1, w2, w3, w4⟩, -, -, w5⟩ := hw i _ hx
      have hnb := (hN.2 _ hm).2.2
      have e2 : fst_ (rcM ws n) i (m + 1) = if rcM ws n i then some i else fst_ (rcM ws n) (i + 1) m := rfl
      rw [e2] at hk
      have e3 : (18 : Int32) * nI i = nI (18 * i) := by rw [n_18, pk_mul]
      cases hr : ws[i].r with
      | none =>
        have ht := hnb.1 hr
        have hf : rcM ws n i = false := by
          cases hc : rcM ws n i with
          | false => rfl
          | true =>
            obtain ⟨w, q, hw2, hq2, _⟩ := rcM_iff.mp hc
            rw [hx] at hw2
            cases hw2
            rw [hr] at hq2
            cases hq2
        rw [hf] at hk
        refine vc_X 30 _ _ _ _ _ _ _ ?_
        simp only [↓v124_0, ↓v124_1, ↓v124_2, ↓v124_3, ↓v124_4, ↓v124_7, ↓v124_10, ↓v124_11, ↓v124_14, ↓v124_15, ↓v124_16, ↓v124_19, ↓v124_22, ↓v124_23, ↓v124_26, ↓v124_28, ↓v124_29, ↓v124_30, ↓v124_31, ↓v124_32, ↓v124_35, ↓v124_36, ↓v124_39, ↓v124_40, ↓v124_41, ↓v124_42, ↓v124_45, ↓v124_48, ↓v124_49, ↓qI_c, ↓qL_c, ↓qR_c, ↓pA_o, ↓qC_i, ↓qC_r, ↓oA_s, ↓gI_0, ↓gI_1, ↓gI_2, ↓gI_3, ↓gI_4, ↓gI_5, ↓gI_6, ↓gI_7, ↓gI_8, ↓gI_9, ↓gI_10, ↓gR_0, ↓gR_1, ↓gR_2, ↓gR_3, ↓gR_4, ↓gR_5, ↓gR_6, ↓gR_7, ↓gR_8, ↓gR_9, ↓gR_10, ↓sL_0, ↓sL_1, ↓sL_2, ↓sL_3, ↓sL_4, ↓sL_5, ↓sL_6, ↓sL_7, ↓sL_8, ↓sL_9, ↓sL_10, ↓rrf_si, ↓rrf_sg, ↓shO_si, ↓shO_sg, ↓shO_sr, ↓shA_si, ↓shA_sg, ↓shA_sr, ↓pAs_0, ↓pAs_i, ↓pAs_r, stk_n, stk_i, stk_l, stk_r, List.nil_append, List.cons_append, true_and, and_true, true_or, or_true, Nat.zero_add, dp_s, Nat.reduceAdd, le8_0, le8_1, le8_2, le8_3, le8_4, le8_5, le8_6, le8_7, le8_8, Classical.not_not, aT40, aT41, aT42, aT44, aT54, aT58, aT59, rT54, rT58, rT59, reduceIte, Nat.reduceEqDiff, qn_42, qn_44, true_implies, not_true_eq_false, not_false_eq_true, false_implies, le_T, lt_T, T_128, nT (show i < 2147483648 by omega), nT (show ws.length < 2147483648 by omega), nT (show ws[i].t < 2147483648 by omega), ↓shO_of hs.1.1, hl, ↓rrf_of hs.2.1.2.2.2.2.1, ↓shA_of hs.2.2.2.2.1.2.2.1, nC (show i < 2147483648 by omega), w2, nI_1]
        exact ⟨fun c => by omega, fun _ => ⟨inB_n (by omega) (by omega), fun _ => ih (i + 1) (by omega) hk, fun c => by omega⟩⟩
      | some q =>
        have ht := hnb.2 q hr
        have hq1 := hq _ q hm hr
        have wq := (w5 q hr).1
        refine vc_X 40 _ _ _ _ _ _ _ ?_
        simp only [↓v124_0, ↓v124_1, ↓v124_2, ↓v124_3, ↓v124_4, ↓v124_7, ↓v124_10, ↓v124_11, ↓v124_14, ↓v124_15, ↓v124_16, ↓v124_19, ↓v124_22, ↓v124_23, ↓v124_26, ↓v124_28, ↓v124_29, ↓v124_30, ↓v124_31, ↓v124_32, ↓v124_35, ↓v124_36, ↓v124_39, ↓v124_40, ↓v124_41, ↓v124_42, ↓v124_45, ↓v124_48, ↓v124_49, ↓qI_c, ↓qL_c, ↓qR_c, ↓pA_o, ↓qC_i, ↓qC_r, ↓oA_s, ↓gI_0, ↓gI_1, ↓gI_2, ↓gI_3, ↓gI_4, ↓gI_5, ↓gI_6, ↓gI_7, ↓gI_8, ↓gI_9, ↓gI_10, ↓gR_0, ↓gR_1, ↓gR_2, ↓gR_3, ↓gR_4, ↓gR_5, ↓gR_6, ↓gR_7, ↓gR_8, ↓gR_9, ↓gR_10, ↓sL_0, ↓sL_1, ↓sL_2, ↓sL_3, ↓sL_4, ↓sL_5, ↓sL_6, ↓sL_7, ↓sL_8, ↓sL_9, ↓sL_10, ↓rrf_si, ↓rrf_sg, ↓shO_si, ↓shO_sg, ↓shO_sr, ↓shA_si, ↓shA_sg, ↓shA_sr, ↓pAs_0, ↓pAs_i, ↓pAs_r, stk_n, stk_i, stk_l, stk_r, List.nil_append, List.cons_append, true_and, and_true, true_or, or_true, Nat.zero_add, dp_s, Nat.reduceAdd, le8_0, le8_1, le8_2, le8_3, le8_4, le8_5, le8_6, le8_7, le8_8, Classical.not_not, aT40, aT41, aT42, aT44, aT54, aT58, aT59, rT54, rT58, rT59, reduceIte, Nat.reduceEqDiff, qn_42, qn_44, true_implies, not_true_eq_false, not_false_eq_true, false_implies, le_T, lt_T, T_128, nT (show i < 2147483648 by omega), nT (show ws.length < 2147483648 by omega), nT (show ws[i].t < 2147483648 by omega), ↓shO_of hs.1.1, hl, ↓rrf_of hs.2.1.2.2.2.2.1, ↓shA_of hs.2.2.2.2.1.2.2.1, nC (show i < 2147483648 by omega), w2, nI_1, ↓rrf_of hs.2.2.1.1, ↓shA_of hs.2.2.2.2.1.2.2.2.2.2.2.1, e3, nC (show 18 * i < 2147483648 by omega), wq, ↓rrf_of hs.2.1.2.2.2.1, ↓shA_of hs.2.2.2.2.1.2.1, w1]
        refine ⟨fun c => by omega, fun _ => ⟨inB_n (by omega) (by omega), fun c => by omega, fun _ => ⟨inB_n (by omega) (by omega), fun c => ?_, fun c => ⟨inB_n (by omega) (by omega), ?_⟩⟩⟩⟩
        · have hf : rcM ws n i = false := by
            cases hc : rcM ws n i with
            | false => rfl
            | true =>
              obtain ⟨w, q2, hw2, hq2, e⟩ := rcM_iff.mp hc
              rw [hx] at hw2
              cases hw2
              rw [hr] at hq2
              cases hq2
              exact absurd (by rw [e]) c
          rw [hf] at hk
          exact ih (i + 1) (by omega) hk
        · rw [nI_eq (by omega) (by omega)] at c
          rw [rcM_iff.mpr ⟨_, q, hx, hr, c⟩] at hk
          have hk : k (some (.inl (oI ((ws[i]?).map Wm.n)))) M := hk
          rw [hx] at hk
          exact hk
  refine xc ?_
  show X d 124 0 [some (.inr (some r)), some (.inl (nI n)), none] [] M k
  refine vc_X 20 _ _ _ _ _ _ _ ?_
  simp only [↓v124_0, ↓v124_1, ↓v124_2, ↓v124_3, ↓v124_4, ↓v124_7, ↓v124_10, ↓v124_11, ↓v124_14, ↓v124_15, ↓v124_16, ↓v124_19, ↓v124_22, ↓v124_23, ↓v124_26, ↓v124_28, ↓v124_29, ↓v124_30, ↓v124_31, ↓v124_32, ↓v124_35, ↓v124_36, ↓v124_39, ↓v124_40, ↓v124_41, ↓v124_42, ↓v124_45, ↓v124_48, ↓v124_49, ↓qI_c, ↓qL_c, ↓qR_c, ↓pA_o, ↓qC_i, ↓qC_r, ↓oA_s, ↓gI_0, ↓gI_1, ↓gI_2, ↓gI_3, ↓gI_4, ↓gI_5, ↓gI_6, ↓gI_7, ↓gI_8, ↓gI_9, ↓gI_10, ↓gR_0, ↓gR_1, ↓gR_2, ↓gR_3, ↓gR_4, ↓gR_5, ↓gR_6, ↓gR_7, ↓gR_8, ↓gR_9, ↓gR_10, ↓sL_0, ↓sL_1, ↓sL_2, ↓sL_3, ↓sL_4, ↓sL_5, ↓sL_6, ↓sL_7, ↓sL_8, ↓sL_9, ↓sL_10, ↓rrf_si, ↓rrf_sg, ↓shO_si, ↓shO_sg, ↓shO_sr, ↓shA_si, ↓shA_sg, ↓shA_sr, ↓pAs_0, ↓pAs_i, ↓pAs_r, stk_n, stk_i, stk_l, stk_r, List.nil_append, List.cons_append, true_and, and_true, true_or, or_true, Nat.zero_add, dp_s, Nat.reduceAdd, le8_0, le8_1, le8_2, le8_3, le8_4, le8_5, le8_6, le8_7, le8_8, Classical.not_not, aT40, aT41, aT42, aT44, aT54, aT58, aT59, rT54, rT58, rT59, reduceIte, Nat.reduceEqDiff, qn_42, qn_44, true_implies, not_true_eq_false, not_false_eq_true, false_implies]
  exact lop ws.length 0 (by omega) hk
theorem e147 {d : Nat} {M : Mm} {k : mQ} {r p : Nat} {ch : Nat → Option Nat} {tb : TbT} (hs : RS M r) (hc : RCh M (r + 8) ch) (he : REn M (r + 9) tb) (ht : M.it r 11 = nI tb.length) (hl : tb.length ≤ 3) (ho : spOK ch) (ho2 : ∀ z ∈ tb, spOK z.2) (hp : p < 1000) (hk : k (some (.inl (oI (fst_ (isAt ch tb p) 0 48)))) M) : XC (d + 2) 147 [.inr (some r), .inl (nI p)] M k := by
  have lop : ∀ m i, i + m = 48 → k (some (.inl (oI (fst_ (isAt ch tb p) i m)))) M → X (d + 1) 147 2 [some (.inr (some r)), some (.inl (nI p)), some (.inl (nI i))] [] M k := by
    intro m
    induction m with
    | zero =>
      intro i hi hk
      have e : i = 48 := by omega
      subst e
      refine vc_X 20 _ _ _ _ _ _ _ ?_
      simp only [↓v147_0, ↓v147_1, ↓v147_2, ↓v147_3, ↓v147_5, ↓v147_8, ↓v147_9, ↓v147_10, ↓v147_13, ↓v147_14, ↓v147_17, ↓v147_18, ↓v147_19, ↓v147_22, ↓v147_25, ↓v147_26, ↓qI_c, ↓qL_c, ↓qR_c, ↓pA_o, ↓qC_i, ↓qC_r, ↓oA_s, ↓gI_0, ↓gI_1, ↓gI_2, ↓gI_3, ↓gI_4, ↓gI_5, ↓gI_6, ↓gI_7, ↓gI_8, ↓gI_9, ↓gI_10, ↓gR_0, ↓gR_1, ↓gR_2, ↓gR_3, ↓gR_4, ↓gR_5, ↓gR_6, ↓gR_7, ↓gR_8, ↓gR_9, ↓gR_10, ↓sL_0, ↓sL_1, ↓sL_2, ↓sL_3, ↓sL_4, ↓sL_5, ↓sL_6, ↓sL_7, ↓sL_8, ↓sL_9, ↓sL_10, ↓rrf_si, ↓rrf_sg, ↓shO_si, ↓shO_sg, ↓shO_sr, ↓shA_si, ↓shA_sg, ↓shA_sr, ↓pAs_0, ↓pAs_i, ↓pAs_r, stk_n, stk_i, stk_l, stk_r, List.nil_append, List.cons_append, true_and, and_true, true_or, or_true, Nat.zero_add, dp_s, Nat.reduceAdd, le8_0, le8_1, le8_2, le8_3, le8_4, le8_5, le8_6, le8_7, le8_8, Classical.not_not, aT40, aT41, aT42, aT44, aT54, aT58, aT59, rT54, rT58, rT59, reduceIte, Nat.reduceEqDiff, qn_42, qn_44, true_implies, not_true_eq_false, not_false_eq_true, false_implies, le_T, T_48, nT (show 48 < 2147483648 by omega)]
      exact ⟨fun _ => hk, fun c => absurd (by decide) c⟩
    | succ m ih =>
      intro i hi hk
      have e2 : fst_ (isAt ch tb p) i (m + 1) = if isAt ch tb p i then some i else fst_ (isAt ch tb p) (i + 1) m := rfl
      rw [e2] at hk
      refine vc_X 20 _ _ _ _ _ _ _ ?_
      simp only [↓v147_0, ↓v147_1, ↓v147_2, ↓v147_3, ↓v147_5, ↓v147_8, ↓v147_9, ↓v147_10, ↓v147_13, ↓v147_14, ↓v147_17, ↓v147_18, ↓v147_19, ↓v147_22, ↓v147_25, ↓v147_26, ↓qI_c, ↓qL_c, ↓qR_c, ↓pA_o, ↓qC_i, ↓qC_r, ↓oA_s, ↓gI_0, ↓gI_1, ↓gI_2, ↓gI_3, ↓gI_4, ↓gI_5, ↓gI_6, ↓gI_7, ↓gI_8, ↓gI_9, ↓gI_10, ↓gR_0, ↓gR_1, ↓gR_2, ↓gR_3, ↓gR_4, ↓gR_5, ↓gR_6, ↓gR_7, ↓gR_8, ↓gR_9, ↓gR_10, ↓sL_0, ↓sL_1, ↓sL_2, ↓sL_3, ↓sL_4, ↓sL_5, ↓sL_6, ↓sL_7, ↓sL_8, ↓sL_9, ↓sL_10, ↓rrf_si, ↓rrf_sg, ↓shO_si, ↓shO_sg, ↓shO_sr, ↓shA_si, ↓shA_sg, ↓shA_sr, ↓pAs_0, ↓pAs_i, ↓pAs_r, stk_n, stk_i, stk_l, stk_r, List.nil_append, List.cons_append, true_and, and_true, true_or, or_true, Nat.zero_add, dp_s, Nat.reduceAdd, le8_0, le8_1, le8_2, le8_3, le8_4, le8_5, le8_6, le8_7, le8_8, Classical.not_not, aT40, aT41, aT42, aT44, aT54, aT58, aT59, rT54, rT58, rT59, reduceIte, Nat.reduceEqDiff, qn_42, qn_44, true_implies, not_true_eq_false, not_false_eq_true, false_implies, le_T, T_48, nT (show i < 2147483648 by omega), ↓shO_of hs.1.1]
      refine ⟨fun c => by omega, fun _ => e129 hs hc he ht hl ho ho2 (by omega) ⟨_, rfl, ?_⟩⟩
      unfold isAt at hk
      cases hq : plO ch tb (some i) with
      | none =>
        rw [hq] at hk
        have : ((none : Option Nat) == some p) = false := rfl
        rw [this] at hk
        refine vc_X 20 _ _ _ _ _ _ _ ?_
        simp only [↓v147_0, ↓v147_1, ↓v147_2, ↓v147_3, ↓v147_5, ↓v147_8, ↓v147_9, ↓v147_10, ↓v147_13, ↓v147_14, ↓v147_17, ↓v147_18, ↓v147_19, ↓v147_22, ↓v147_25, ↓v147_26, ↓qI_c, ↓qL_c, ↓qR_c, ↓pA_o, ↓qC_i, ↓qC_r, ↓oA_s, ↓gI_0, ↓gI_1, ↓gI_2, ↓gI_3, ↓gI_4, ↓gI_5, ↓gI_6, ↓gI_7, ↓gI_8, ↓gI_9, ↓gI_10, ↓gR_0, ↓gR_1, ↓gR_2, ↓gR_3, ↓gR_4, ↓gR_5, ↓gR_6, ↓gR_7, ↓gR_8, ↓gR_9, ↓gR_10, ↓sL_0, ↓sL_1, ↓sL_2, ↓sL_3, ↓sL_4, ↓sL_5, ↓sL_6, ↓sL_7, ↓sL_8, ↓sL_9, ↓sL_10, ↓rrf_si, ↓rrf_sg, ↓shO_si, ↓shO_sg, ↓shO_sr, ↓shA_si, ↓shA_sg, ↓shA_sr, ↓pAs_0, ↓pAs_i, ↓pAs_r, stk_n, stk_i, stk_l, stk_r, List.nil_append, List.cons_append, true_and, and_true, true_or, or_true, Nat.zero_add, dp_s, Nat.reduceAdd, le8_0, le8_1, le8_2, le8_3, le8_4, le8_5, le8_6, le8_7, le8_8, Classical.not_not, aT40, aT41, aT42, aT44, aT54, aT58, aT59, rT54, rT58, rT59, reduceIte, Nat.reduceEqDiff, qn_42, qn_44, true_implies, not_true_eq_false, not_false_eq_true, false_implies, oI_none, nI_1]
        refine ⟨fun _ => ih (i + 1) (by omega) hk, fun c => ?_⟩
        have c := c.symm
        rw [nI_nm (by omega) (by decide)] at c
        exact c.elim
      | some v =>
        rw [hq] at hk
        have hv : v < 256 := by
          have h1 : okO (lkS ch tb (some i)) := by
            have hT : ∀ l : TbT, (∀ z ∈ l, spOK z.2) → okO (lkT l (some i)) := by
              intro l
              induction l with
              | nil => intro _ p hp; cases hp
              | cons z l ihl => intro hz; exact okO_or (fun p hp => hz z (by simp) i p (by omega) hp) (ihl (fun y hy => hz y (by simp [hy])))
            exact okO_or (fun p hp => ho i p (by omega) hp) (hT tb ho2)
          have := noG_lt h1 hq
          omega
        have e1 : oI (some v) = nI v := rfl
        refine vc_X 20 _ _ _ _ _ _ _ ?_
        simp only [↓v147_0, ↓v147_1, ↓v147_2, ↓v147_3, ↓v147_5, ↓v147_8, ↓v147_9, ↓v147_10, ↓v147_13, ↓v147_14, ↓v147_17, ↓v147_18, ↓v147_19, ↓v147_22, ↓v147_25, ↓v147_26, ↓qI_c, ↓qL_c, ↓qR_c, ↓pA_o, ↓qC_i, ↓qC_r, ↓oA_s, ↓gI_0, ↓gI_1, ↓gI_2, ↓gI_3, ↓gI_4, ↓gI_5, ↓gI_6, ↓gI_7, ↓gI_8, ↓gI_9, ↓gI_10, ↓gR_0, ↓gR_1, ↓gR_2, ↓gR_3, ↓gR_4, ↓gR_5, ↓gR_6, ↓gR_7, ↓gR_8, ↓gR_9, ↓gR_10, ↓sL_0, ↓sL_1, ↓sL_2, ↓sL_3, ↓sL_4, ↓sL_5, ↓sL_6, ↓sL_7, ↓sL_8, ↓sL_9, ↓sL_10, ↓rrf_si, ↓rrf_sg, ↓shO_si, ↓shO_sg, ↓shO_sr, ↓shA_si, ↓shA_sg, ↓shA_sr, ↓pAs_0, ↓pAs_i, ↓pAs_r, stk_n, stk_i, stk_l, stk_r, List.nil_append, List.cons_append, true_and, and_true, true_or, or_true, Nat.zero_add, dp_s, Nat.reduceAdd, le8_0, le8_1, le8_2, le8_3, le8_4, le8_5, le8_6, le8_7, le8_8, Classical.not_not, aT40, aT41, aT42, aT44, aT54, aT58, aT59, rT54, rT58, rT59, reduceIte, Nat.reduceEqDiff, qn_42, qn_44, true_implies, not_true_eq_false, not_false_eq_true, false_implies, e1, nI_1]
        refine ⟨fun c => ?_, fun c => ?_⟩
        · have : (some v == some p) = false := by
            refine beq_eq_false_iff_ne.mpr (fun q => c ?_)
            cases q
            rfl
          rw [this] at hk
          exact ih (i + 1) (by omega) hk
        · rw [nI_eq (by omega) (by omega)] at c
          rw [c] at hk
          rw [show (some p == some p) = true by simp] at hk
          exact hk
  refine xc ?_
  show X (d + 1) 147 0 [some (.inr (some r)), some (.inl (nI p)), none] [] M k
  refine vc_X 20 _ _ _ _ _ _ _ ?_
  simp only [↓v147_0, ↓v147_1, ↓v147_2, ↓v147_3, ↓v147_5, ↓v147_8, ↓v147_9, ↓v147_10, ↓v147_13, ↓v147_14, ↓v147_17, ↓v147_18, ↓v147_19, ↓v147_22, ↓v147_25, ↓v147_26, ↓qI_c, ↓qL_c, ↓qR_c, ↓pA_o, ↓qC_i, ↓qC_r, ↓oA_s, ↓gI_0, ↓gI_1, ↓gI_2, ↓gI_3, ↓gI_4, ↓gI_5, ↓gI_6, ↓gI_7, ↓gI_8, ↓gI_9, ↓gI_10, ↓gR_0, ↓gR_1, ↓gR_2, ↓gR_3, ↓gR_4, ↓gR_5, ↓gR_6, ↓gR_7, ↓gR_8, ↓gR_9, ↓gR_10, ↓sL_0, ↓sL_1, ↓sL_2, ↓sL_3, ↓sL_4, ↓sL_5, ↓sL_6, ↓sL_7, ↓sL_8, ↓sL_9, ↓sL_10, ↓rrf_si, ↓rrf_sg, ↓shO_si, ↓shO_sg, ↓shO_sr, ↓shA_si, ↓shA_sg, ↓shA_sr, ↓pAs_0, ↓pAs_i, ↓pAs_r, stk_n, stk_i, stk_l, stk_r, List.nil_append, List.cons_append, true_and, and_true, true_or, or_true, Nat.zero_add, dp_s, Nat.reduceAdd, le8_0, le8_1, le8_2, le8_3, le8_4, le8_5, le8_6, le8_7, le8_8, Classical.not_not, aT40, aT41, aT42, aT44, aT54, aT58, aT59, rT54, rT58, rT59, reduceIte, Nat.reduceEqDiff, qn_42, qn_44, true_implies, not_true_eq_false, not_false_eq_true, false_implies]
  exact lop 48 0 (by omega) hk
theorem e146 {d : Nat} {M : Mm} {k : mQ} {r p : Nat} {tb : TbT} (hs : RS M r) (h7 : RI M (r + 7) (tb.map Prod.fst)) (ht : M.it r 11 = nI tb.length) (hl : tb.length ≤ 3) (ho : ∀ z ∈ tb, z.1 < 128) (hp : p < 1000) (hk : k (some (.inl (bI (tb.any (fun z => z.1 == p))))) M) : XC (d + 1) 146 [.inr (some r), .inl (nI p)] M k := by
  have lop : ∀ (l : TbT) (t : Nat), tb.drop t = l → t + l.length = tb.length → k (some (.inl (bI (l.any (fun z => z.1 == p))))) M → X d 146 2 [some (.inr (some r)), some (.inl (nI p)), some (.inl (nI t))] [] M k := by
    intro l
    induction l with
    | nil =>
      intro t hd hl2 hk
      have et : t = tb.length := by simpa using hl2
      subst et
      refine vc_X 20 _ _ _ _ _ _ _ ?_
      simp only [↓v146_0, ↓v146_1, ↓v146_2, ↓v146_3, ↓v146_4, ↓v146_7, ↓v146_10, ↓v146_11, ↓v146_14, ↓v146_15, ↓v146_16, ↓v146_17, ↓v146_20, ↓v146_21, ↓v146_22, ↓v146_25, ↓v146_28, ↓v146_29, ↓qI_c, ↓qL_c, ↓qR_c, ↓pA_o, ↓qC_i, ↓qC_r, ↓oA_s, ↓gI_0, ↓gI_1, ↓gI_2, ↓gI_3, ↓gI_4, ↓gI_5, ↓gI_6, ↓gI_7, ↓gI_8, ↓gI_9, ↓gI_10, ↓gR_0, ↓gR_1, ↓gR_2, ↓gR_3, ↓gR_4, ↓gR_5, ↓gR_6, ↓gR_7, ↓gR_8, ↓gR_9, ↓gR_10, ↓sL_0, ↓sL_1, ↓sL_2, ↓sL_3, ↓sL_4, ↓sL_5, ↓sL_6, ↓sL_7, ↓sL_8, ↓sL_9, ↓sL_10, ↓rrf_si, ↓rrf_sg, ↓shO_si, ↓shO_sg, ↓shO_sr, ↓shA_si, ↓shA_sg, ↓shA_sr, ↓pAs_0, ↓pAs_i, ↓pAs_r, stk_n, stk_i, stk_l, stk_r, List.nil_append, List.cons_append, true_and, and_true, true_or, or_true, Nat.zero_add, dp_s, Nat.reduceAdd, le8_0, le8_1, le8_2, le8_3, le8_4, le8_5, le8_6, le8_7, le8_8, Classical.not_not, aT40, aT41, aT42, aT44, aT54, aT58, aT59, rT54, rT58, rT59, reduceIte, Nat.reduceEqDiff, qn_42, qn_44, true_implies, not_true_eq_false, not_false_eq_true, false_implies, le_T, nT (show tb.length < 2147483648 by omega), ↓shO_of hs.1.1, ht, Int.le_refl]
      exact hk
    | cons z l ih =>
      intro t hd hl2 hk
      have ht2 : t < tb.length := by rw [List.length_cons] at hl2; omega
      have hzt : tb[t]? = some z := by
        have : (tb.drop t)[0]? = some z := by rw [hd]; rfl
        rw [List.getElem?_drop] at this
        exact this
      have hd2 : tb.drop (t + 1) = l := by
        have : (tb.drop t).drop 1 = l := by rw [hd]; rfl
        rw [List.drop_drop] at this
        exact this
      have h1 := h7 t z.1 (by rw [List.getElem?_map, hzt]; rfl)
      have hz := ho z (List.mem_of_getElem? hzt)
      rw [List.any_cons] at hk
      refine vc_X 30 _ _ _ _ _ _ _ ?_
      simp only [↓v146_0, ↓v146_1, ↓v146_2, ↓v146_3, ↓v146_4, ↓v146_7, ↓v146_10, ↓v146_11, ↓v146_14, ↓v146_15, ↓v146_16, ↓v146_17, ↓v146_20, ↓v146_21, ↓v146_22, ↓v146_25, ↓v146_28, ↓v146_29, ↓qI_c, ↓qL_c, ↓qR_c, ↓pA_o, ↓qC_i, ↓qC_r, ↓oA_s, ↓gI_0, ↓gI_1, ↓gI_2, ↓gI_3, ↓gI_4, ↓gI_5, ↓gI_6, ↓gI_7, ↓gI_8, ↓gI_9, ↓gI_10, ↓gR_0, ↓gR_1, ↓gR_2, ↓gR_3, ↓gR_4, ↓gR_5, ↓gR_6, ↓gR_7, ↓gR_8, ↓gR_9, ↓gR_10, ↓sL_0, ↓sL_1, ↓sL_2, ↓sL_3, ↓sL_4, ↓sL_5, ↓sL_6, ↓sL_7, ↓sL_8, ↓sL_9, ↓sL_10, ↓rrf_si, ↓rrf_sg, ↓shO_si, ↓shO_sg, ↓shO_sr, ↓shA_si, ↓shA_sg, ↓shA_sr, ↓pAs_0, ↓pAs_i, ↓pAs_r, stk_n, stk_i, stk_l, stk_r, List.nil_append, List.cons_append, true_and, and_true, true_or, or_true, Nat.zero_add, dp_s, Nat.reduceAdd, le8_0, le8_1, le8_2, le8_3, le8_4, le8_5, le8_6, le8_7, le8_8, Classical.not_not, aT40, aT41, aT42, aT44, aT54, aT58, aT59, rT54, rT58, rT59, reduceIte, Nat.reduceEqDiff, qn_42, qn_44, true_implies, not_true_eq_false, not_false_eq_true, false_implies, le_T, nT (show t < 2147483648 by omega), nT (show tb.length < 2147483648 by omega), ↓shO_of hs.1.1, ht, ↓rrf_of hs.2.1.1, ↓shA_of hs.2.2.2.1.2.2.2.2.2.2.1, nC (show t < 2147483648 by omega), h1, nI_1]
      refine ⟨fun c => by omega, fun _ => ⟨inB_n (by omega) (by omega), fun c => ?_, fun c => ?_⟩⟩
      · rw [show (z.1 == p) = false from beq_eq_false_iff_ne.mpr (fun q => c (by rw [q])), Bool.false_or] at hk
        exact ih (t + 1) hd2 (by rw [List.length_cons] at hl2; omega) hk
      · rw [nI_eq (by omega) (by omega)] at c
        rw [show (z.1 == p) = true by rw [c]; simp, Bool.true_or] at hk
        exact hk
  refine xc ?_
  show X d 146 0 [some (.inr (some r)), some (.inl (nI p)), none] [] M k
  refine vc_X 20 _ _ _ _ _ _ _ ?_
  simp only [↓v146_0, ↓v146_1, ↓v146_2, ↓v146_3, ↓v146_4, ↓v146_7, ↓v146_10, ↓v146_11, ↓v146_14, ↓v146_15, ↓v146_16, ↓v146_17, ↓v146_20, ↓v146_21, ↓v146_22, ↓v146_25, ↓v146_28, ↓v146_29, ↓qI_c, ↓qL_c, ↓qR_c, ↓pA_o, ↓qC_i, ↓qC_r, ↓oA_s, ↓gI_0, ↓gI_1, ↓gI_2, ↓gI_3, ↓gI_4, ↓gI_5, ↓gI_6, ↓gI_7, ↓gI_8, ↓gI_9, ↓gI_10, ↓gR_0, ↓gR_1, ↓gR_2, ↓gR_3, ↓gR_4, ↓gR_5, ↓gR_6, ↓gR_7, ↓gR_8, ↓gR_9, ↓gR_10, ↓sL_0, ↓sL_1, ↓sL_2, ↓sL_3, ↓sL_4, ↓sL_5, ↓sL_6, ↓sL_7, ↓sL_8, ↓sL_9, ↓sL_10, ↓rrf_si, ↓rrf_sg, ↓shO_si, ↓shO_sg, ↓shO_sr, ↓shA_si, ↓shA_sg, ↓shA_sr, ↓pAs_0, ↓pAs_i, ↓pAs_r, stk_n, stk_i, stk_l, stk_r, List.nil_append, List.cons_append, true_and, and_true, true_or, or_true, Nat.zero_add, dp_s, Nat.reduceAdd, le8_0, le8_1, le8_2, le8_3, le8_4, le8_5, le8_6, le8_7, le8_8, Classical.not_not, aT40, aT41, aT42, aT44, aT54, aT58, aT59, rT54, rT58, rT59, reduceIte, Nat.reduceEqDiff, qn_42, qn_44, true_implies, not_true_eq_false, not_false_eq_true, false_implies]
  exact lop tb 0 rfl (by omega) hk
/-- which slot has the latest record -/
def slL (s0 : RecT) (s1 : Option RecT) : Nat := match s1 with
  | some q => if s0.1 < q.1 then 1 else 0
  | none => 0
theorem e149 {d : Nat} {M : Mm} {k : mQ} {r : Nat} {s : Ms} (hs : RS M r) (h : RSl M r s) (b0 : s.s0.1 < 100000) (b1 : ∀ q, s.s1 = some q → q.1 < 100000) (hk : k (some (.inl (nI (slL s.s0 s.s1)))) M) : XC (d + 1) 149 [.inr (some r)] M k := by
  obtain ⟨h0, h1⟩ := h
  have e0 : M.it (r + 3) 0 = nI s.s0.1 := h0.1
  have c18 : (18 : Int32).toNatClampNeg = 18 := rfl
  refine xc ?_
  show X d 149 0 [some (.inr (some r))] [] M k
  cases hs1 : s.s1 with
  | none =>
    rw [hs1] at h1 hk
    have h1 : M.it (r + 3) 18 = -1 := h1
    refine vc_X 20 _ _ _ _ _ _ _ ?_
    simp only [↓v149_0, ↓v149_1, ↓v149_4, ↓v149_6, ↓v149_7, ↓v149_8, ↓v149_11, ↓v149_12, ↓v149_13, ↓v149_16, ↓v149_17, ↓v149_20, ↓v149_21, ↓qI_c, ↓qL_c, ↓qR_c, ↓pA_o, ↓qC_i, ↓qC_r, ↓oA_s, ↓gI_0, ↓gI_1, ↓gI_2, ↓gI_3, ↓gI_4, ↓gI_5, ↓gI_6, ↓gI_7, ↓gI_8, ↓gI_9, ↓gI_10, ↓gR_0, ↓gR_1, ↓gR_2, ↓gR_3, ↓gR_4, ↓gR_5, ↓gR_6, ↓gR_7, ↓gR_8, ↓gR_9, ↓gR_10, ↓sL_0, ↓sL_1, ↓sL_2, ↓sL_3, ↓sL_4, ↓sL_5, ↓sL_6, ↓sL_7, ↓sL_8, ↓sL_9, ↓sL_10, ↓rrf_si, ↓rrf_sg, ↓shO_si, ↓shO_sg, ↓shO_sr, ↓shA_si, ↓shA_sg, ↓shA_sr, ↓pAs_0, ↓pAs_i, ↓pAs_r, stk_n, stk_i, stk_l, stk_r, List.nil_append, List.cons_append, true_and, and_true, true_or, or_true, Nat.zero_add, dp_s, Nat.reduceAdd, le8_0, le8_1, le8_2, le8_3, le8_4, le8_5, le8_6, le8_7, le8_8, Classical.not_not, aT40, aT41, aT42, aT44, aT54, aT58, aT59, rT54, rT58, rT59, reduceIte, Nat.reduceEqDiff, qn_42, qn_44, true_implies, not_true_eq_false, not_false_eq_true, false_implies, ↓shO_of hs.1.1, ↓rrf_of hs.1.2.2.2.1, ↓shA_of hs.2.2.2.1.2.2.1, c18, cl0, e0, h1, le_T, T_m1, nT (show s.s0.1 < 2147483648 by omega)]
    exact ⟨inB_n (j := 18) (by omega) (by omega), inB_n (j := 0) (by omega) (by omega), fun _ => hk, fun c => by omega⟩
  | some q =>
    have hq := b1 q hs1
    rw [hs1] at h1 hk
    have h1 : M.it (r + 3) 18 = nI q.1 := h1.1
    have hk : k (some (.inl (nI (if s.s0.1 < q.1 then 1 else 0)))) M := hk
    refine vc_X 20 _ _ _ _ _ _ _ ?_
    simp only [↓v149_0, ↓v149_1, ↓v149_4, ↓v149_6, ↓v149_7, ↓v149_8, ↓v149_11, ↓v149_12, ↓v149_13, ↓v149_16, ↓v149_17, ↓v149_20, ↓v149_21, ↓qI_c, ↓qL_c, ↓qR_c, ↓pA_o, ↓qC_i, ↓qC_r, ↓oA_s, ↓gI_0, ↓gI_1, ↓gI_2, ↓gI_3, ↓gI_4, ↓gI_5, ↓gI_6, ↓gI_7, ↓gI_8, ↓gI_9, ↓gI_10, ↓gR_0, ↓gR_1, ↓gR_2, ↓gR_3, ↓gR_4, ↓gR_5, ↓gR_6, ↓gR_7, ↓gR_8, ↓gR_9, ↓gR_10, ↓sL_0, ↓sL_1, ↓sL_2, ↓sL_3, ↓sL_4, ↓sL_5, ↓sL_6, ↓sL_7, ↓sL_8, ↓sL_9, ↓sL_10, ↓rrf_si, ↓rrf_sg, ↓shO_si, ↓shO_sg, ↓shO_sr, ↓shA_si, ↓shA_sg, ↓shA_sr, ↓pAs_0, ↓pAs_i, ↓pAs_r, stk_n, stk_i, stk_l, stk_r, List.nil_append, List.cons_append, true_and, and_true, true_or, or_true, Nat.zero_add, dp_s, Nat.reduceAdd, le8_0, le8_1, le8_2, le8_3, le8_4, le8_5, le8_6, le8_7, le8_8, Classical.not_not, aT40, aT41, aT42, aT44, aT54, aT58, aT59, rT54, rT58, rT59, reduceIte, Nat.reduceEqDiff, qn_42, qn_44, true_implies, not_true_eq_false, not_false_eq_true, false_implies, ↓shO_of hs.1.1, ↓rrf_of hs.1.2.2.2.1, ↓shA_of hs.2.2.2.1.2.2.1, c18, cl0, e0, h1, le_T, nT (show s.s0.1 < 2147483648 by omega), nT (show q.1 < 2147483648 by omega)]
    refine ⟨inB_n (j := 18) (by omega) (by omega), inB_n (j := 0) (by omega) (by omega), fun c => ?_, fun c => ?_⟩
    · rw [if_neg (by omega)] at hk
      exact hk
    · rw [if_pos (by omega)] at hk
      exact hk
section
variable {r : Nat} {P : Nat → Prop} {Fs : List Nat} {M M' : Mm} {s : Ms}
theorem RB8.rf {a : Nat} {l : List Nat} (h : RB8 M a l) (o : Rf r P Fs M M') (ha : a ≠ r) (hp : ¬ P a) : RB8 M' a l := fun j v hj => by rw [o.at_ ha hp]; exact h j v hj
theorem RI.rf {a : Nat} {l : List Nat} (h : RI M a l) (o : Rf r P Fs M M') (ha : a ≠ r) (hp : ¬ P a) : RI M' a l := fun j v hj => by rw [o.at_ ha hp]; exact h j v hj
theorem RDk.rf {a : Nat} {dk : Nat → Nat → Nat} (h : RDk M a dk) (o : Rf r P Fs M M') (ha : a ≠ r) (hp : ¬ P a) : RDk M' a dk := fun b i hb hi => by rw [o.at_ ha hp]; exact h b i hb hi
theorem RPt.rf {a : Nat} {pt : Nat → Nat} (h : RPt M a pt) (o : Rf r P Fs M M') (ha : a ≠ r) (hp : ¬ P a) : RPt M' a pt := fun e he => by rw [o.at_ ha hp]; exact h e he
theorem RCh.rf {a : Nat} {ch : Nat → Option Nat} (h : RCh M a ch) (o : Rf r P Fs M M') (ha : a ≠ r) (hp : ¬ P a) : RCh M' a ch := fun e he => by rw [o.at_ ha hp]; exact h e he
theorem REn.rf {a : Nat} {tb : TbT} (h : REn M a tb) (o : Rf r P Fs M M') (ha : a ≠ r) (hp : ¬ P a) : REn M' a tb := fun t z q hz hq => by rw [o.at_ ha hp]; exact h t z q hz hq
theorem RLo.rf {a : Nat} {lo : Nat → Bool} (h : RLo M a lo) (o : Rf r P Fs M M') (ha : a ≠ r) (hp : ¬ P a) : RLo M' a lo := fun j hj => by rw [o.at_ ha hp]; exact h j hj
theorem RSl.rf (h : RSl M r s) (o : Rf r P Fs M M') (hp : ¬ P (r + 3)) : RSl M' r s := by
  refine ⟨h.1.cong (fun i _ => o.at_ (by omega) hp _), ?_⟩
  have h2 := h.2
  cases hs : s.s1 with
  | none =>
    rw [hs] at h2
    show M'.it (r + 3) 18 = -1
    rw [o.at_ (by omega) hp]
    exact h2
  | some q =>
    rw [hs] at h2
    exact RcP.cong h2 (fun i _ => o.at_ (by omega) hp _)
theorem REm.rf (h : REm M r s) (o : Rf r P Fs M M') (hp : ¬ P (r + 5)) : REm M' r s := fun e he => by rw [o.at_ (by omega) hp]; exact h e he
theorem RWs.rf {ws : List Wm} (h : RWs M r ws) (o : Rf r P Fs M M') (hp : ∀ y, r + 10 ≤ y → y ≤ r + 15 → ¬ P y) : RWs M' r ws := h.oi o.1 (fun y y1 y2 q => q.elim (by omega) (hp y y1 y2))
/-- nothing of it has changed -/
theorem RP.rf0 (h : RP M r s) (o : Rf r P Fs M M') (hP : ∀ y, P y → y = r + 6 ∨ (r + 19 ≤ y)) (hF : ∀ j, j ∈ Fs → j ∉ [2, 5, 9, 10, 11, 12, 13, 14, 15, 27, 28, 34]) : RP M' r s := by
  obtain ⟨hs, ⟨⟨f1, f2, f3, f4, f5, f6, f7⟩, f8, f9, f10, f11, f12⟩, ⟨a1, a2, a3, a4, a5⟩, ⟨b1, b2, b3, b4⟩, ⟨c1, c2, c3⟩, d⟩ := h
  have F : ∀ j, j ∈ [2, 5, 9, 10, 11, 12, 13, 14, 15, 27, 28, 34] → M'.it r j = M.it r j := fun j hj => o.2 j (fun q => hF j q hj)
  have np : ∀ y, y ≠ r + 6 → y < r + 19 → ¬ P y := fun y h1 h2 q => by have := hP y q; omega
  refine ⟨hs.oi o.1, ⟨⟨?_, ?_, ?_, ?_, ?_, ?_, ?_⟩, ?_, ?_, ?_, ?_, ?_⟩, ⟨a1.rf o (by omega) (np _ (by omega) (by omega)), a2.rf o (by omega) (np _ (by omega) (by omega)), a3.rf o (np _ (by omega) (by omega)), a4.rf o (by omega) (np _ (by omega) (by omega)), a5.rf o (np _ (by omega) (by omega))⟩, ⟨b1.rf o (by omega) (np _ (by omega) (by omega)), b2.rf o (by omega) (np _ (by omega) (by omega)), b3.rf o (by omega) (np _ (by omega) (by omega)), b4.rf o (fun y y1 y2 => np y (by omega) (by omega))⟩, ⟨c1.rf o (by omega) (np _ (by omega) (by omega)), ⟨c2.1.rf o (by omega) (np _ (by omega) (by omega)), c2.2⟩, c3.rf o (by omega) (np _ (by omega) (by omega))⟩, d⟩
  all_goals
    rw [F _ (by decide)]
    assumption
end
/-- what a call of the reference leaves alone -/
def Rr (r : Nat) (M M' : Mm) : Prop := Oi (fun y => r ≤ y ∧ y < r + 24) M M'
theorem Rf.rr {r : Nat} {P : Nat → Prop} {Fs : List Nat} {M M' : Mm} (o : Rf r P Fs M M') (hP : ∀ y, P y → r ≤ y ∧ y < r + 24) : Rr r M M' := o.1.mono (fun x hx => hx.elim (fun q => by rw [q]; omega) (hP x))
theorem RP.th {r : Nat} {M : Mm} {s : Ms} (h : RP M r s) : RP (M.si r 0 0) r s ∧ Rf r (fun _ => False) [0] M (M.si r 0 0) := by
  have o : Rf r (fun _ => False) [0] M (M.si r 0 0) := Rf.rf_.fld (by simp)
  exact ⟨h.rf0 o (fun y hy => hy.elim) (fun j hj => by simp at hj; subst hj; decide), o⟩
