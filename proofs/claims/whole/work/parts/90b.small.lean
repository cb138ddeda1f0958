/-! delete, get, list -/
section
variable {M : Mm} {b a : Nat} {D : DT} {Q : QT} {C : List Nat × Nat} {L : (Nat → Nat) × Option Nat} {I : IT} {T : List Nat × List Nat} {E : (Nat → Option Nat) × (Nat → Bool)} {G : Nat → RecT} {f : Option Nat × Nat × Nat × Bool}
theorem CP.f15 (h : CP M b D Q C L I T E (G, a, f)) : M.it b 15 = oI f.1 := h.2.2.2.2.2.2.2.2.2.2.1
theorem CP.f16 (h : CP M b D Q C L I T E (G, a, f)) : M.it b 16 = nI f.2.1 := h.2.2.2.2.2.2.2.2.2.2.2.1
theorem CP.f17 (h : CP M b D Q C L I T E (G, a, f)) : M.it b 17 = nI f.2.2.1 := h.2.2.2.2.2.2.2.2.2.2.2.2.1
theorem CP.f18 (h : CP M b D Q C L I T E (G, a, f)) : M.it b 18 = bI f.2.2.2 := h.2.2.2.2.2.2.2.2.2.2.2.2.2.1
/-- one mutation more -/
theorem CP.mu (h : CP M b D Q C L I T E (G, a, f)) (hm : f.2.2.1 + 1 ≤ 512) : CP (M.si b 17 (nI (f.2.2.1 + 1))) b D Q C L I T E (G, a, f.1, f.2.1, f.2.2.1 + 1, f.2.2.2) := by
  have o : Of (· = b) M (M.si b 17 (nI (f.2.2.1 + 1))) := (Of.rf_ : Of (· = b) M M).i rfl
  obtain ⟨h1, h2, h3, h4, h5, h6, h7, h8⟩ := h.2.2.2.2.2.2.2.2
  refine h.upF (F' := (G, a, f.1, f.2.1, f.2.2.1 + 1, f.2.2.2)) ⟨h1, ?_, ?_, ?_, ?_, ?_, h7, hm⟩ rfl o (fun j _ => rfl)
  · exact h2.ag (P := fun y => ¬ y = b) (o.ag (fun _ h => h)) (fun x hx => by omega) (Nat.le_refl _)
  · rw [si_it, if_neg (by simp)]; exact h3
  · rw [si_it, if_neg (by simp)]; exact h4
  · rw [si_it, if_pos ⟨rfl, rfl⟩]
  · rw [si_it, if_neg (by simp)]; exact h6
end
theorem plO_noK (ch : Nat → Option Nat) (tb : TbT) : plO ch tb none = none := by
  have : ∀ tb : TbT, lkT tb none = none := by
    intro tb
    induction tb with
    | nil => rfl
    | cons z l ih => show orO none (lkT l none) = none; rw [ih]; rfl
  unfold plO lkS
  show noG (lkT tb none) = none
  rw [this]
  rfl
theorem keyOf_nI {x : Int32} {k : Nat} (h : keyOf x = some k) : x = nI k ∧ k < 48 := by
  have : idx x 48 = some k := h
  exact idx_n this
theorem IxC.chg {M M' : Mm} {x : Nat} {im : Nat → Nat} {ch ch2 : Nat → Option Nat} {tb : TbT} (h : IxC M x im ch tb) (n : EnC M' (x + 1) (x + 2) ch2 none) (o : On [x + 1, x + 2] M M') : IxC M' x im ch2 tb := by
  obtain ⟨hs, _, h2, h3, h4⟩ := h
  refine ⟨hs.keep o, n, by rw [o.2.2.2.2.2 x (by simp)]; exact h2, h3, fun t z hz => ?_⟩
  exact ⟨(h4 t z hz).1.keep o (by simp; omega) (by simp; omega), (h4 t z hz).2⟩
theorem k38g {d : Nat} {M : Mm} {k : mQ} {a s j : Nat} {sp : Nat → Option Nat} {pl : Option Nat} (h : EnC M a s sp pl) (hj : j < 48) (hk : ∀ M', EnC M' a s (ups sp j (some 255)) pl → On [a, s] M M' → k none M') : XC (d + 2) 38 [.inr (some a), .inl (nI j), .inl (-2)] M k := k38 (p := 255) h hj (Or.inl rfl) hk
theorem k38p {d : Nat} {M : Mm} {k : mQ} {a s j p : Nat} {sp : Nat → Option Nat} {pl : Option Nat} (h : EnC M a s sp pl) (hj : j < 48) (hp : p < 128) (hk : ∀ M', EnC M' a s (ups sp j (some p)) pl → On [a, s] M M' → k none M') : XC (d + 2) 38 [.inr (some a), .inl (nI j), .inl (nI p)] M k := by
  have e : nI p = spI (some p) := by
    show nI p = if p = 255 then -2 else nI p
    rw [if_neg (by omega)]
  rw [e]
  exact k38 h hj (Or.inr hp) hk
theorem oI_none : oI none = -1 := rfl
theorem bI_t : bI true = 1 := rfl
theorem bI_f : bI false = 0 := rfl
theorem c59 {d c : Nat} {M : Mm} {k : mQ} {b : Nat} {s : Ms} {x : Int32} (h : CM M b s) (hi : IvS c s) (hc : c < 512) (hk : ∀ M', CM M' b (mDel x s).2 → Fr b M M' → k (some (.inl (mDel x s).1)) M') : XC (d + 4) 59 [.inr (some b), .inl x] M k := by
  have h0 := h
  obtain ⟨D, pm, ws, im, G, a, h, r⟩ := h
  have f18 : M.it b 18 = bI s.off := h.f18
  have f17 : M.it b 17 = nI s.mu := h.f17
  have hI : IxC M (b + 255) im s.ch s.tb := h.2.2.2.2.2.1
  have hm : s.mu ≤ c := hi.2.2.1.2.2.2.1
  have no : ∀ (j : Nat), keyOf x = none ∨ (keyOf x = some j ∧ (s.off = true ∨ plO s.ch s.tb (some j) = none)) → mDel x s = (-1, s) := by
    intro j hj
    unfold mDel
    rcases hj with hj | ⟨hj, hc⟩
    · rw [hj]
    · rw [hj]
      exact if_pos hc
  refine xc ?_
  show X (d + 3) 59 0 [some (.inr (some b)), some (.inl x)] [] M k
  cases ho : s.off with
  | true =>
    rw [ho, bI_t] at f18
    refine vc_X 20 _ _ _ _ _ _ _ ?_
    simp only [↓v59_0, ↓v59_1, ↓v59_4, ↓v59_7, ↓v59_8, ↓v59_11, ↓v59_12, ↓v59_15, ↓v59_16, ↓v59_19, ↓v59_20, ↓v59_23, ↓v59_26, ↓v59_29, ↓v59_30, ↓v59_31, ↓v59_32, ↓v59_35, ↓v59_38, ↓v59_39, ↓v59_41, ↓v59_44, ↓v59_45, ↓v59_46, ↓v59_49, ↓v59_50, ↓v59_51, ↓v59_54, ↓v59_55, ↓v59_58, ↓qI_c, ↓qL_c, ↓qR_c, ↓pA_o, ↓qC_i, ↓qC_r, ↓oA_s, ↓gI_0, ↓gI_1, ↓gI_2, ↓gI_3, ↓gI_4, ↓gI_5, ↓gI_6, ↓gI_7, ↓gI_8, ↓gI_9, ↓gI_10, ↓gR_0, ↓gR_1, ↓gR_2, ↓gR_3, ↓gR_4, ↓gR_5, ↓gR_6, ↓gR_7, ↓gR_8, ↓gR_9, ↓gR_10, ↓sL_0, ↓sL_1, ↓sL_2, ↓sL_3, ↓sL_4, ↓sL_5, ↓sL_6, ↓sL_7, ↓sL_8, ↓sL_9, ↓sL_10, ↓rrf_si, ↓rrf_sg, ↓shO_si, ↓shO_sg, ↓shO_sr, ↓shA_si, ↓shA_sg, ↓shA_sr, ↓pAs_0, ↓pAs_i, ↓pAs_r, stk_n, stk_i, stk_l, stk_r, List.nil_append, List.cons_append, true_and, and_true, true_or, or_true, Nat.zero_add, dp_s, Nat.reduceAdd, le8_0, le8_1, le8_2, le8_3, le8_4, le8_5, le8_6, le8_7, le8_8, Classical.not_not, aT40, aT41, aT42, aT44, aT54, aT58, aT59, rT54, rT58, rT59, reduceIte, Nat.reduceEqDiff, qn_42, qn_44, true_implies, not_true_eq_false, not_false_eq_true, false_implies, ↓shO_of h.1.1.1, f18, i10]
    have e : mDel x s = (-1, s) := by
      cases hx : keyOf x with
      | none => exact no 0 (Or.inl hx)
      | some j => exact no j (Or.inr ⟨hx, Or.inl ho⟩)
    rw [e] at hk
    exact hk M h0 Fr.rf_
  | false =>
    rw [ho, bI_f] at f18
    refine vc_X 20 _ _ _ _ _ _ _ ?_
    simp only [↓v59_0, ↓v59_1, ↓v59_4, ↓v59_7, ↓v59_8, ↓v59_11, ↓v59_12, ↓v59_15, ↓v59_16, ↓v59_19, ↓v59_20, ↓v59_23, ↓v59_26, ↓v59_29, ↓v59_30, ↓v59_31, ↓v59_32, ↓v59_35, ↓v59_38, ↓v59_39, ↓v59_41, ↓v59_44, ↓v59_45, ↓v59_46, ↓v59_49, ↓v59_50, ↓v59_51, ↓v59_54, ↓v59_55, ↓v59_58, ↓qI_c, ↓qL_c, ↓qR_c, ↓pA_o, ↓qC_i, ↓qC_r, ↓oA_s, ↓gI_0, ↓gI_1, ↓gI_2, ↓gI_3, ↓gI_4, ↓gI_5, ↓gI_6, ↓gI_7, ↓gI_8, ↓gI_9, ↓gI_10, ↓gR_0, ↓gR_1, ↓gR_2, ↓gR_3, ↓gR_4, ↓gR_5, ↓gR_6, ↓gR_7, ↓gR_8, ↓gR_9, ↓gR_10, ↓sL_0, ↓sL_1, ↓sL_2, ↓sL_3, ↓sL_4, ↓sL_5, ↓sL_6, ↓sL_7, ↓sL_8, ↓sL_9, ↓sL_10, ↓rrf_si, ↓rrf_sg, ↓shO_si, ↓shO_sg, ↓shO_sr, ↓shA_si, ↓shA_sg, ↓shA_sr, ↓pAs_0, ↓pAs_i, ↓pAs_r, stk_n, stk_i, stk_l, stk_r, List.nil_append, List.cons_append, true_and, and_true, true_or, or_true, Nat.zero_add, dp_s, Nat.reduceAdd, le8_0, le8_1, le8_2, le8_3, le8_4, le8_5, le8_6, le8_7, le8_8, Classical.not_not, aT40, aT41, aT42, aT44, aT54, aT58, aT59, rT54, rT58, rT59, reduceIte, Nat.reduceEqDiff, qn_42, qn_44, true_implies, not_true_eq_false, not_false_eq_true, false_implies, ↓shO_of h.1.1.1, f18, i00, ↓rrf_of h.1.1.2.2.2.2.2.2, ↓shO_of hI.1.1]
    refine k60 hI ⟨_, rfl, ?_⟩
    cases hp : plO s.ch s.tb (keyOf x) with
    | none =>
      refine vc_X 20 _ _ _ _ _ _ _ ?_
      simp only [↓v59_0, ↓v59_1, ↓v59_4, ↓v59_7, ↓v59_8, ↓v59_11, ↓v59_12, ↓v59_15, ↓v59_16, ↓v59_19, ↓v59_20, ↓v59_23, ↓v59_26, ↓v59_29, ↓v59_30, ↓v59_31, ↓v59_32, ↓v59_35, ↓v59_38, ↓v59_39, ↓v59_41, ↓v59_44, ↓v59_45, ↓v59_46, ↓v59_49, ↓v59_50, ↓v59_51, ↓v59_54, ↓v59_55, ↓v59_58, ↓qI_c, ↓qL_c, ↓qR_c, ↓pA_o, ↓qC_i, ↓qC_r, ↓oA_s, ↓gI_0, ↓gI_1, ↓gI_2, ↓gI_3, ↓gI_4, ↓gI_5, ↓gI_6, ↓gI_7, ↓gI_8, ↓gI_9, ↓gI_10, ↓gR_0, ↓gR_1, ↓gR_2, ↓gR_3, ↓gR_4, ↓gR_5, ↓gR_6, ↓gR_7, ↓gR_8, ↓gR_9, ↓gR_10, ↓sL_0, ↓sL_1, ↓sL_2, ↓sL_3, ↓sL_4, ↓sL_5, ↓sL_6, ↓sL_7, ↓sL_8, ↓sL_9, ↓sL_10, ↓rrf_si, ↓rrf_sg, ↓shO_si, ↓shO_sg, ↓shO_sr, ↓shA_si, ↓shA_sg, ↓shA_sr, ↓pAs_0, ↓pAs_i, ↓pAs_r, stk_n, stk_i, stk_l, stk_r, List.nil_append, List.cons_append, true_and, and_true, true_or, or_true, Nat.zero_add, dp_s, Nat.reduceAdd, le8_0, le8_1, le8_2, le8_3, le8_4, le8_5, le8_6, le8_7, le8_8, Classical.not_not, aT40, aT41, aT42, aT44, aT54, aT58, aT59, rT54, rT58, rT59, reduceIte, Nat.reduceEqDiff, qn_42, qn_44, true_implies, not_true_eq_false, not_false_eq_true, false_implies, oI_none, m11]
      have e : mDel x s = (-1, s) := by
        cases hx : keyOf x with
        | none => exact no 0 (Or.inl hx)
        | some j => rw [hx] at hp; exact no j (Or.inr ⟨hx, Or.inr hp⟩)
      rw [e] at hk
      exact hk M h0 Fr.rf_
    | some p =>
      cases hx : keyOf x with
      | none => rw [hx, plO_noK] at hp; cases hp
      | some j =>
        rw [hx] at hp
        obtain ⟨ej, hj⟩ := keyOf_nI hx
        have hp2 := plO_lt hI hj hp
        have e1 : oI (some p) = nI p := rfl
        have hE : EnC M (b + 256) (b + 257) s.ch none := hI.2.1
        have e : mDel x s = (nI (s.mu + 1), sMu (sCh j 255 s)) := by
          unfold mDel
          rw [hx]
          exact if_neg (by rw [ho, hp]; simp)
        rw [e] at hk
        rw [ej]
        refine vc_X 40 _ _ _ _ _ _ _ ?_
        simp only [↓v59_0, ↓v59_1, ↓v59_4, ↓v59_7, ↓v59_8, ↓v59_11, ↓v59_12, ↓v59_15, ↓v59_16, ↓v59_19, ↓v59_20, ↓v59_23, ↓v59_26, ↓v59_29, ↓v59_30, ↓v59_31, ↓v59_32, ↓v59_35, ↓v59_38, ↓v59_39, ↓v59_41, ↓v59_44, ↓v59_45, ↓v59_46, ↓v59_49, ↓v59_50, ↓v59_51, ↓v59_54, ↓v59_55, ↓v59_58, ↓qI_c, ↓qL_c, ↓qR_c, ↓pA_o, ↓qC_i, ↓qC_r, ↓oA_s, ↓gI_0, ↓gI_1, ↓gI_2, ↓gI_3, ↓gI_4, ↓gI_5, ↓gI_6, ↓gI_7, ↓gI_8, ↓gI_9, ↓gI_10, ↓gR_0, ↓gR_1, ↓gR_2, ↓gR_3, ↓gR_4, ↓gR_5, ↓gR_6, ↓gR_7, ↓gR_8, ↓gR_9, ↓gR_10, ↓sL_0, ↓sL_1, ↓sL_2, ↓sL_3, ↓sL_4, ↓sL_5, ↓sL_6, ↓sL_7, ↓sL_8, ↓sL_9, ↓sL_10, ↓rrf_si, ↓rrf_sg, ↓shO_si, ↓shO_sg, ↓shO_sr, ↓shA_si, ↓shA_sg, ↓shA_sr, ↓pAs_0, ↓pAs_i, ↓pAs_r, stk_n, stk_i, stk_l, stk_r, List.nil_append, List.cons_append, true_and, and_true, true_or, or_true, Nat.zero_add, dp_s, Nat.reduceAdd, le8_0, le8_1, le8_2, le8_3, le8_4, le8_5, le8_6, le8_7, le8_8, Classical.not_not, aT40, aT41, aT42, aT44, aT54, aT58, aT59, rT54, rT58, rT59, reduceIte, Nat.reduceEqDiff, qn_42, qn_44, true_implies, not_true_eq_false, not_false_eq_true, false_implies, e1, nI_nm (show p < 2147483648 by omega) (show ((-1 : Int32)).toInt < 0 by decide), ↓shO_of h.1.1.1, f17, lt_T, T_512, nT (show s.mu < 2147483648 by omega), ↓rrf_of h.1.1.2.2.2.2.2.2, ↓shO_of hI.1.1, ↓rrf_of hI.1.2.1, ↓shO_of hE.1.1]
        refine ⟨fun _ => ?_, fun c1 => by omega⟩
        refine k38g hE hj (fun M1 n1 o1 => ⟨rfl, ?_⟩)
        have hI1 := hI.chg n1 o1
        have hC1 := h.upI hI1 (o1.of (fun y hy => by simp at hy; unfold PX; omega))
        have g17 : M1.it b 17 = nI s.mu := hC1.f17
        refine vc_X 40 _ _ _ _ _ _ _ ?_
        simp only [↓v59_0, ↓v59_1, ↓v59_4, ↓v59_7, ↓v59_8, ↓v59_11, ↓v59_12, ↓v59_15, ↓v59_16, ↓v59_19, ↓v59_20, ↓v59_23, ↓v59_26, ↓v59_29, ↓v59_30, ↓v59_31, ↓v59_32, ↓v59_35, ↓v59_38, ↓v59_39, ↓v59_41, ↓v59_44, ↓v59_45, ↓v59_46, ↓v59_49, ↓v59_50, ↓v59_51, ↓v59_54, ↓v59_55, ↓v59_58, ↓qI_c, ↓qL_c, ↓qR_c, ↓pA_o, ↓qC_i, ↓qC_r, ↓oA_s, ↓gI_0, ↓gI_1, ↓gI_2, ↓gI_3, ↓gI_4, ↓gI_5, ↓gI_6, ↓gI_7, ↓gI_8, ↓gI_9, ↓gI_10, ↓gR_0, ↓gR_1, ↓gR_2, ↓gR_3, ↓gR_4, ↓gR_5, ↓gR_6, ↓gR_7, ↓gR_8, ↓gR_9, ↓gR_10, ↓sL_0, ↓sL_1, ↓sL_2, ↓sL_3, ↓sL_4, ↓sL_5, ↓sL_6, ↓sL_7, ↓sL_8, ↓sL_9, ↓sL_10, ↓rrf_si, ↓rrf_sg, ↓shO_si, ↓shO_sg, ↓shO_sr, ↓shA_si, ↓shA_sg, ↓shA_sr, ↓pAs_0, ↓pAs_i, ↓pAs_r, stk_n, stk_i, stk_l, stk_r, List.nil_append, List.cons_append, true_and, and_true, true_or, or_true, Nat.zero_add, dp_s, Nat.reduceAdd, le8_0, le8_1, le8_2, le8_3, le8_4, le8_5, le8_6, le8_7, le8_8, Classical.not_not, aT40, aT41, aT42, aT44, aT54, aT58, aT59, rT54, rT58, rT59, reduceIte, Nat.reduceEqDiff, qn_42, qn_44, true_implies, not_true_eq_false, not_false_eq_true, false_implies, ↓shO_of hC1.1.1.1, g17, nI_1]
        rw [si_it, if_pos ⟨rfl, rfl⟩]
        refine hk _ ⟨D, pm, ws, im, G, a, hC1.mu (by show s.mu + 1 ≤ 512; omega), r⟩ ?_
        have o2 : Of (fun y => b ≤ y ∧ y < b + 279) M (M1.si b 17 (nI (s.mu + 1))) := (o1.of (fun y hy => by simp at hy; omega)).i ⟨Nat.le_refl _, by omega⟩
        exact o2.fr (fun _ h => h)
theorem c62 {d c : Nat} {M : Mm} {k : mQ} {b : Nat} {s : Ms} {x : Int32} (h : CM M b s) (hi : IvS c s) (hc : c < 512) (hk : ∀ M', CM M' b (mGet x s).2 → Fr b M M' → k (some (.inl (mGet x s).1)) M') : XC (d + 6) 62 [.inr (some b), .inl x] M k := by
  have h0 := h
  obtain ⟨D, pm, ws, im, G, a, h, r⟩ := h
  have f18 : M.it b 18 = bI s.off := h.f18
  have hI : IxC M (b + 255) im s.ch s.tb := h.2.2.2.2.2.1
  unfold mGet at hk
  refine xc ?_
  show X (d + 5) 62 0 [some (.inr (some b)), some (.inl x), none] [] M k
  cases ho : s.off with
  | true =>
    rw [ho, bI_t] at f18
    refine vc_X 20 _ _ _ _ _ _ _ ?_
    simp only [↓v62_0, ↓v62_1, ↓v62_4, ↓v62_7, ↓v62_8, ↓v62_9, ↓v62_10, ↓v62_13, ↓v62_14, ↓v62_17, ↓v62_18, ↓v62_19, ↓v62_20, ↓v62_23, ↓v62_24, ↓v62_25, ↓v62_26, ↓v62_27, ↓v62_30, ↓v62_31, ↓v62_32, ↓v62_33, ↓v62_36, ↓v62_39, ↓v62_40, ↓v62_43, ↓v62_46, ↓qI_c, ↓qL_c, ↓qR_c, ↓pA_o, ↓qC_i, ↓qC_r, ↓oA_s, ↓gI_0, ↓gI_1, ↓gI_2, ↓gI_3, ↓gI_4, ↓gI_5, ↓gI_6, ↓gI_7, ↓gI_8, ↓gI_9, ↓gI_10, ↓gR_0, ↓gR_1, ↓gR_2, ↓gR_3, ↓gR_4, ↓gR_5, ↓gR_6, ↓gR_7, ↓gR_8, ↓gR_9, ↓gR_10, ↓sL_0, ↓sL_1, ↓sL_2, ↓sL_3, ↓sL_4, ↓sL_5, ↓sL_6, ↓sL_7, ↓sL_8, ↓sL_9, ↓sL_10, ↓rrf_si, ↓rrf_sg, ↓shO_si, ↓shO_sg, ↓shO_sr, ↓shA_si, ↓shA_sg, ↓shA_sr, ↓pAs_0, ↓pAs_i, ↓pAs_r, stk_n, stk_i, stk_l, stk_r, List.nil_append, List.cons_append, true_and, and_true, true_or, or_true, Nat.zero_add, dp_s, Nat.reduceAdd, le8_0, le8_1, le8_2, le8_3, le8_4, le8_5, le8_6, le8_7, le8_8, Classical.not_not, aT40, aT41, aT42, aT44, aT54, aT58, aT59, rT54, rT58, rT59, reduceIte, Nat.reduceEqDiff, qn_42, qn_44, true_implies, not_true_eq_false, not_false_eq_true, false_implies, ↓shO_of h.1.1.1, f18, i10]
    rw [if_pos ho] at hk
    exact hk M h0 Fr.rf_
  | false =>
    rw [ho, bI_f] at f18
    rw [if_neg (by rw [ho]; decide)] at hk
    refine vc_X 20 _ _ _ _ _ _ _ ?_
    simp only [↓v62_0, ↓v62_1, ↓v62_4, ↓v62_7, ↓v62_8, ↓v62_9, ↓v62_10, ↓v62_13, ↓v62_14, ↓v62_17, ↓v62_18, ↓v62_19, ↓v62_20, ↓v62_23, ↓v62_24, ↓v62_25, ↓v62_26, ↓v62_27, ↓v62_30, ↓v62_31, ↓v62_32, ↓v62_33, ↓v62_36, ↓v62_39, ↓v62_40, ↓v62_43, ↓v62_46, ↓qI_c, ↓qL_c, ↓qR_c, ↓pA_o, ↓qC_i, ↓qC_r, ↓oA_s, ↓gI_0, ↓gI_1, ↓gI_2, ↓gI_3, ↓gI_4, ↓gI_5, ↓gI_6, ↓gI_7, ↓gI_8, ↓gI_9, ↓gI_10, ↓gR_0, ↓gR_1, ↓gR_2, ↓gR_3, ↓gR_4, ↓gR_5, ↓gR_6, ↓gR_7, ↓gR_8, ↓gR_9, ↓gR_10, ↓sL_0, ↓sL_1, ↓sL_2, ↓sL_3, ↓sL_4, ↓sL_5, ↓sL_6, ↓sL_7, ↓sL_8, ↓sL_9, ↓sL_10, ↓rrf_si, ↓rrf_sg, ↓shO_si, ↓shO_sg, ↓shO_sr, ↓shA_si, ↓shA_sg, ↓shA_sr, ↓pAs_0, ↓pAs_i, ↓pAs_r, stk_n, stk_i, stk_l, stk_r, List.nil_append, List.cons_append, true_and, and_true, true_or, or_true, Nat.zero_add, dp_s, Nat.reduceAdd, le8_0, le8_1, le8_2, le8_3, le8_4, le8_5, le8_6, le8_7, le8_8, Classical.not_not, aT40, aT41, aT42, aT44, aT54, aT58, aT59, rT54, rT58, rT59, reduceIte, Nat.reduceEqDiff, qn_42, qn_44, true_implies, not_true_eq_false, not_false_eq_true, false_implies, ↓shO_of h.1.1.1, f18, i00, ↓rrf_of h.1.1.2.2.2.2.2.2, ↓shO_of hI.1.1]
    refine k60 hI ⟨_, rfl, ?_⟩
    cases hp : plO s.ch s.tb (keyOf x) with
    | none =>
      refine vc_X 20 _ _ _ _ _ _ _ ?_
      simp only [↓v62_0, ↓v62_1, ↓v62_4, ↓v62_7, ↓v62_8, ↓v62_9, ↓v62_10, ↓v62_13, ↓v62_14, ↓v62_17, ↓v62_18, ↓v62_19, ↓v62_20, ↓v62_23, ↓v62_24, ↓v62_25, ↓v62_26, ↓v62_27, ↓v62_30, ↓v62_31, ↓v62_32, ↓v62_33, ↓v62_36, ↓v62_39, ↓v62_40, ↓v62_43, ↓v62_46, ↓qI_c, ↓qL_c, ↓qR_c, ↓pA_o, ↓qC_i, ↓qC_r, ↓oA_s, ↓gI_0, ↓gI_1, ↓gI_2, ↓gI_3, ↓gI_4, ↓gI_5, ↓gI_6, ↓gI_7, ↓gI_8, ↓gI_9, ↓gI_10, ↓gR_0, ↓gR_1, ↓gR_2, ↓gR_3, ↓gR_4, ↓gR_5, ↓gR_6, ↓gR_7, ↓gR_8, ↓gR_9, ↓gR_10, ↓sL_0, ↓sL_1, ↓sL_2, ↓sL_3, ↓sL_4, ↓sL_5, ↓sL_6, ↓sL_7, ↓sL_8, ↓sL_9, ↓sL_10, ↓rrf_si, ↓rrf_sg, ↓shO_si, ↓shO_sg, ↓shO_sr, ↓shA_si, ↓shA_sg, ↓shA_sr, ↓pAs_0, ↓pAs_i, ↓pAs_r, stk_n, stk_i, stk_l, stk_r, List.nil_append, List.cons_append, true_and, and_true, true_or, or_true, Nat.zero_add, dp_s, Nat.reduceAdd, le8_0, le8_1, le8_2, le8_3, le8_4, le8_5, le8_6, le8_7, le8_8, Classical.not_not, aT40, aT41, aT42, aT44, aT54, aT58, aT59, rT54, rT58, rT59, reduceIte, Nat.reduceEqDiff, qn_42, qn_44, true_implies, not_true_eq_false, not_false_eq_true, false_implies, oI_none, m11]
      rw [hp] at hk
      exact hk M h0 Fr.rf_
    | some p =>
      rw [hp] at hk
      have hk : ∀ M', CM M' b (sT (s.tp, ctS s.V p (lnS s.V p)) (sC (usC s.ws s.C p (nbS s.V p)) s)) → Fr b M M' → k (some (.inl (nI (lnS s.V p)))) M' := hk
      cases hx : keyOf x with
      | none => rw [hx, plO_noK] at hp; cases hp
      | some j =>
        rw [hx] at hp
        obtain ⟨ej, hj⟩ := keyOf_nI hx
        have on := hi.1 ho
        obtain ⟨w1, w2, w3, w4, w5, w6, w7, w8⟩ := on.2.2.2.1
        obtain ⟨p1, p2⟩ := w5 j p hj hp
        have p2 : lnS s.V p ≤ 100 := p2
        have p3 : p % 16 + nbS s.V p ≤ s.pt (p / 16) := w6 p (Or.inl ⟨j, hj, hp⟩)
        have p4 := w1 (p / 16) (by omega)
        have p5 : nbS s.V p = (lnS s.V p + 23) / 16 := rfl
        have hw := r.ok hi
        have hln : lnA D.1 ws p = lnS s.V p := r.2.2.2.1.ln_ hi.nb hi.bt r.1 p1
        have hnb : nbA D.1 ws p = nbS s.V p := r.2.2.2.1.nb_ hi.nb hi.bt r.1 p1
        have hC : s.C.2 ≤ 60 * c := hi.2.2.1.2.2.2.2
        have e1 : oI (some p) = nI p := rfl
        refine vc_X 40 _ _ _ _ _ _ _ ?_
        simp only [↓v62_0, ↓v62_1, ↓v62_4, ↓v62_7, ↓v62_8, ↓v62_9, ↓v62_10, ↓v62_13, ↓v62_14, ↓v62_17, ↓v62_18, ↓v62_19, ↓v62_20, ↓v62_23, ↓v62_24, ↓v62_25, ↓v62_26, ↓v62_27, ↓v62_30, ↓v62_31, ↓v62_32, ↓v62_33, ↓v62_36, ↓v62_39, ↓v62_40, ↓v62_43, ↓v62_46, ↓qI_c, ↓qL_c, ↓qR_c, ↓pA_o, ↓qC_i, ↓qC_r, ↓oA_s, ↓gI_0, ↓gI_1, ↓gI_2, ↓gI_3, ↓gI_4, ↓gI_5, ↓gI_6, ↓gI_7, ↓gI_8, ↓gI_9, ↓gI_10, ↓gR_0, ↓gR_1, ↓gR_2, ↓gR_3, ↓gR_4, ↓gR_5, ↓gR_6, ↓gR_7, ↓gR_8, ↓gR_9, ↓gR_10, ↓sL_0, ↓sL_1, ↓sL_2, ↓sL_3, ↓sL_4, ↓sL_5, ↓sL_6, ↓sL_7, ↓sL_8, ↓sL_9, ↓sL_10, ↓rrf_si, ↓rrf_sg, ↓shO_si, ↓shO_sg, ↓shO_sr, ↓shA_si, ↓shA_sg, ↓shA_sr, ↓pAs_0, ↓pAs_i, ↓pAs_r, stk_n, stk_i, stk_l, stk_r, List.nil_append, List.cons_append, true_and, and_true, true_or, or_true, Nat.zero_add, dp_s, Nat.reduceAdd, le8_0, le8_1, le8_2, le8_3, le8_4, le8_5, le8_6, le8_7, le8_8, Classical.not_not, aT40, aT41, aT42, aT44, aT54, aT58, aT59, rT54, rT58, rT59, reduceIte, Nat.reduceEqDiff, qn_42, qn_44, true_implies, not_true_eq_false, not_false_eq_true, false_implies, e1, nI_nm (show p < 2147483648 by omega) (show ((-1 : Int32)).toInt < 0 by decide), ↓shO_of h.1.1.1]
        refine k22 (Q := (pm, s.md, ws)) h hw p1 (by omega) (fun M1 h1 o1 => ⟨rfl, ?_⟩)
        have h1 : CP M1 b D (pm, s.md, ws) (usC s.ws s.C p (nbS s.V p)) s.L (im, s.I) s.T s.E (G, a, s.F.2) := by
          have e : usN ws s.C p (nbA D.1 ws p) = usC s.ws s.C p (nbS s.V p) := by rw [r.2.2.2.1.us_, hnb]
          rw [← e]
          exact h1
        have hT1 := h1.2.2.2.2.2.2.1
        refine vc_X 40 _ _ _ _ _ _ _ ?_
        simp only [↓v62_0, ↓v62_1, ↓v62_4, ↓v62_7, ↓v62_8, ↓v62_9, ↓v62_10, ↓v62_13, ↓v62_14, ↓v62_17, ↓v62_18, ↓v62_19, ↓v62_20, ↓v62_23, ↓v62_24, ↓v62_25, ↓v62_26, ↓v62_27, ↓v62_30, ↓v62_31, ↓v62_32, ↓v62_33, ↓v62_36, ↓v62_39, ↓v62_40, ↓v62_43, ↓v62_46, ↓qI_c, ↓qL_c, ↓qR_c, ↓pA_o, ↓qC_i, ↓qC_r, ↓oA_s, ↓gI_0, ↓gI_1, ↓gI_2, ↓gI_3, ↓gI_4, ↓gI_5, ↓gI_6, ↓gI_7, ↓gI_8, ↓gI_9, ↓gI_10, ↓gR_0, ↓gR_1, ↓gR_2, ↓gR_3, ↓gR_4, ↓gR_5, ↓gR_6, ↓gR_7, ↓gR_8, ↓gR_9, ↓gR_10, ↓sL_0, ↓sL_1, ↓sL_2, ↓sL_3, ↓sL_4, ↓sL_5, ↓sL_6, ↓sL_7, ↓sL_8, ↓sL_9, ↓sL_10, ↓rrf_si, ↓rrf_sg, ↓shO_si, ↓shO_sg, ↓shO_sr, ↓shA_si, ↓shA_sg, ↓shA_sr, ↓pAs_0, ↓pAs_i, ↓pAs_r, stk_n, stk_i, stk_l, stk_r, List.nil_append, List.cons_append, true_and, and_true, true_or, or_true, Nat.zero_add, dp_s, Nat.reduceAdd, le8_0, le8_1, le8_2, le8_3, le8_4, le8_5, le8_6, le8_7, le8_8, Classical.not_not, aT40, aT41, aT42, aT44, aT54, aT58, aT59, rT54, rT58, rT59, reduceIte, Nat.reduceEqDiff, qn_42, qn_44, true_implies, not_true_eq_false, not_false_eq_true, false_implies, ↓shO_of h1.1.1.1, ↓rrf_of h1.1.2.1.2.1]
        refine k31 (Q := (pm, s.md, ws)) h1.rd hw hT1.2.1.1 p1 (by show p + (lnA D.1 ws p + 5) / 16 < 128; omega) (by omega) (by omega) (fun M2 b2 o2 => ⟨rfl, ?_⟩)
        have b2 : BC M2 (b + 269) (b + 270) 255 ((ctS s.V p (lnS s.V p)).map nI) := by
          have e : ctA D.1 ws p (lnA D.1 ws p) = ctS s.V p (lnS s.V p) := by rw [hln]; exact r.2.2.2.1.ct_ hi.nb hi.bt r.1 (by omega)
          rw [← e]
          exact b2
        have o2' : Of (fun y => b + 267 ≤ y ∧ y < b + 271) M1 M2 := o2.of (fun y hy => by simp at hy; omega)
        have g2 : Ag (fun y => y ≠ b + 269 ∧ y ≠ b + 270) M1 M2 := (o2.of (P := fun y => y = b + 269 ∨ y = b + 270) (fun y hy => by simpa using hy)).ag (fun y hy hP => by omega)
        have hC2 : CP M2 b D (pm, s.md, ws) (usC s.ws s.C p (nbS s.V p)) s.L (im, s.I) (s.tp, ctS s.V p (lnS s.V p)) s.E (G, a, s.F.2) := by
          refine h1.upT ⟨hT1.1.ag g2 (by omega) (by omega), b2, hT1.2.2.1, fun v hv => ?_⟩ o2'
          have hv : v ∈ ctS s.V p (lnS s.V p) := hv
          unfold ctS at hv
          obtain ⟨i, hi2, ev⟩ := List.mem_map.mp hv
          rw [List.mem_range] at hi2
          subst ev
          exact on.vb hi.bt (by omega) _
        have hl2 : M2.it (b + 269) 1 = nI (lnS s.V p) := by rw [b2.2.1, List.length_map, ctS_len]
        refine vc_X 40 _ _ _ _ _ _ _ ?_
        simp only [↓v62_0, ↓v62_1, ↓v62_4, ↓v62_7, ↓v62_8, ↓v62_9, ↓v62_10, ↓v62_13, ↓v62_14, ↓v62_17, ↓v62_18, ↓v62_19, ↓v62_20, ↓v62_23, ↓v62_24, ↓v62_25, ↓v62_26, ↓v62_27, ↓v62_30, ↓v62_31, ↓v62_32, ↓v62_33, ↓v62_36, ↓v62_39, ↓v62_40, ↓v62_43, ↓v62_46, ↓qI_c, ↓qL_c, ↓qR_c, ↓pA_o, ↓qC_i, ↓qC_r, ↓oA_s, ↓gI_0, ↓gI_1, ↓gI_2, ↓gI_3, ↓gI_4, ↓gI_5, ↓gI_6, ↓gI_7, ↓gI_8, ↓gI_9, ↓gI_10, ↓gR_0, ↓gR_1, ↓gR_2, ↓gR_3, ↓gR_4, ↓gR_5, ↓gR_6, ↓gR_7, ↓gR_8, ↓gR_9, ↓gR_10, ↓sL_0, ↓sL_1, ↓sL_2, ↓sL_3, ↓sL_4, ↓sL_5, ↓sL_6, ↓sL_7, ↓sL_8, ↓sL_9, ↓sL_10, ↓rrf_si, ↓rrf_sg, ↓shO_si, ↓shO_sg, ↓shO_sr, ↓shA_si, ↓shA_sg, ↓shA_sr, ↓pAs_0, ↓pAs_i, ↓pAs_r, stk_n, stk_i, stk_l, stk_r, List.nil_append, List.cons_append, true_and, and_true, true_or, or_true, Nat.zero_add, dp_s, Nat.reduceAdd, le8_0, le8_1, le8_2, le8_3, le8_4, le8_5, le8_6, le8_7, le8_8, Classical.not_not, aT40, aT41, aT42, aT44, aT54, aT58, aT59, rT54, rT58, rT59, reduceIte, Nat.reduceEqDiff, qn_42, qn_44, true_implies, not_true_eq_false, not_false_eq_true, false_implies, ↓shO_of hC2.1.1.1, ↓rrf_of hC2.1.2.1.2.1, ↓shO_of b2.1.1, hl2]
        refine hk M2 ⟨D, pm, ws, im, G, a, hC2, r⟩ ?_
        have o3 : Of (fun y => b ≤ y ∧ y < b + 279) M M2 := (o1.of (fun y hy => by simp at hy; omega)).trans o2' (fun y hy => by omega)
        exact o3.fr (fun _ h => h)
