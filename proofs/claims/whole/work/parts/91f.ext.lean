/-! the reference: extent, about -/
def lvS (s : Ms) (p : Nat) : Bool := (fst_ (isAt s.ch s.tb p) 0 48).isSome || s.tb.any (fun z => z.1 == p)
def lsum (s : Ms) (e : Nat) : Nat → Nat
  | 0 => 0
  | n + 1 => lsum s e n + (if lvS s (16 * e + n) then nbS s.V (16 * e + n) else 0)
theorem lvS_iff {s : Ms} {p : Nat} : lvS s p = true ↔ Lv s.ch s.tb p := by
  unfold lvS Lv
  rw [Bool.or_eq_true, List.any_eq_true]
  constructor
  · intro h
    rcases h with h | ⟨z, hz, e⟩
    · cases hf : fst_ (isAt s.ch s.tb p) 0 48 with
      | none => rw [hf] at h; cases h
      | some q =>
        obtain ⟨h1, h2, h3⟩ := fst_spec _ _ _ _ hf
        unfold isAt at h1
        rw [beq_iff_eq] at h1
        exact Or.inl ⟨q, by omega, h1⟩
    · rw [beq_iff_eq] at e
      exact Or.inr ⟨z, hz, e⟩
  · intro h
    rcases h with ⟨q, hq, h⟩ | ⟨z, hz, e⟩
    · left
      cases hf : fst_ (isAt s.ch s.tb p) 0 48 with
      | some q => rfl
      | none =>
        have := fst_none _ _ _ hf q (by omega) (by omega)
        unfold isAt at this
        rw [h] at this
        simp at this
    · exact Or.inr ⟨z, hz, by rw [beq_iff_eq]; exact e⟩
theorem lvB_iff {s : Ms} {b : Nat} : lvB s b = true ↔ Rch s.ch s.tb s.V b := by
  unfold lvB Rch
  rw [Bool.or_eq_true, mkB_iff, List.any_eq_true]
  constructor
  · intro h
    rcases h with ⟨q, p, hq, hp, h⟩ | ⟨z, hz, h⟩
    · have hp : noG (plO s.ch s.tb (some q)) = some p := hp
      unfold plO at hp
      rw [noG_noG] at hp
      exact ⟨p, Or.inl ⟨q, hq, hp⟩, h⟩
    · rw [Bool.and_eq_true, decide_eq_true_eq, decide_eq_true_eq] at h
      exact ⟨z.1, Or.inr ⟨z, hz, rfl⟩, h⟩
  · intro ⟨p, hp, h⟩
    rcases hp with ⟨q, hq, hp⟩ | ⟨z, hz, e⟩
    · refine Or.inl ⟨q, p, hq, ?_, h⟩
      show noG (plO s.ch s.tb (some q)) = some p
      unfold plO at hp ⊢
      rw [noG_noG]
      exact hp
    · subst e
      refine Or.inr ⟨z, hz, ?_⟩
      rw [Bool.and_eq_true, decide_eq_true_eq, decide_eq_true_eq]
      exact h
theorem cnt_all {p : Nat → Bool} {m : Nat} : ∀ n, (∀ i, m ≤ i → i < m + n → p i = true) → cnt p (m + n) = cnt p m + n
  | 0, _ => rfl
  | n + 1, h => by
    show cnt p (m + n) + (if p (m + n) then 1 else 0) = cnt p m + (n + 1)
    rw [cnt_all n (fun i h1 h2 => h i h1 (by omega)), h (m + n) (by omega) (by omega), if_pos rfl]
    omega
/-- live chunks do not overlap: their blocks are counted by their beginnings -/
theorem lsum_eq {s : Ms} (o : On_ s) {e : Nat} (he : e < 8) : lsum s e 16 = cnt (fun i => lvB s (16 * e + i)) 16 := by
  obtain ⟨w1, w2, w3, w4, w5, w6, w7, w8⟩ := o.2.2.2.1
  have key : ∀ n, n ≤ 16 → ∃ m, n ≤ m ∧ m ≤ 16 ∧ lsum s e n = cnt (fun i => lvB s (16 * e + i)) m ∧ (∀ i, i < n → Lv s.ch s.tb (16 * e + i) → i + nbS s.V (16 * e + i) ≤ m) ∧ ∀ i, n ≤ i → i < m → ¬ Lv s.ch s.tb (16 * e + i) := by
    intro n
    induction n with
    | zero => intro _; exact ⟨0, by omega, by omega, rfl, fun i hi => by omega, fun i h1 h2 => by omega⟩
    | succ n ih =>
      intro hn
      obtain ⟨m, m1, m2, m3, m4, m5⟩ := ih (by omega)
      have e1 : lsum s e (n + 1) = lsum s e n + (if lvS s (16 * e + n) then nbS s.V (16 * e + n) else 0) := rfl
      by_cases c : m = n
      · subst c
        cases hl : lvS s (16 * e + m) with
        | false =>
          have hnl : ¬ Lv s.ch s.tb (16 * e + m) := fun q => by rw [lvS_iff.mpr q] at hl; cases hl
          rw [hl] at e1
          have e2 : cnt (fun i => lvB s (16 * e + i)) (m + 1) = cnt (fun i => lvB s (16 * e + i)) m + (if lvB s (16 * e + m) then 1 else 0) := rfl
          have hf : lvB s (16 * e + m) = false := by
            cases hb : lvB s (16 * e + m) with
            | false => rfl
            | true =>
              exfalso
              obtain ⟨p, hp, p1, p2⟩ := lvB_iff.mp hb
              have hp0 := hp.lt o.2.2.2.1
              have q6 : p % 16 + nbS s.V p ≤ s.pt (p / 16) := w6 p hp
              have q1 := w1 (p / 16) (by omega)
              have pe : p = 16 * e + (p - 16 * e) := by omega
              by_cases cp : p = 16 * e + m
              · rw [cp] at hp; exact hnl hp
              · rw [pe] at hp p2
                have := m4 (p - 16 * e) (by omega) hp
                omega
          refine ⟨m + 1, by omega, by omega, ?_, fun i hi hL => ?_, fun i h1 h2 => by omega⟩
          · rw [e2, hf, e1, m3]
            rfl
          · by_cases ci : i = m
            · rw [ci] at hL; exact absurd hL hnl
            · have := m4 i (by omega) hL
              omega
        | true =>
          have hL0 : Lv s.ch s.tb (16 * e + m) := lvS_iff.mp hl
          have hp0 := hL0.lt o.2.2.2.1
          have q6 : (16 * e + m) % 16 + nbS s.V (16 * e + m) ≤ s.pt ((16 * e + m) / 16) := w6 _ hL0
          have q1 := w1 ((16 * e + m) / 16) (by omega)
          have n1 := nbS_pos s.V (16 * e + m)
          rw [hl, if_pos rfl] at e1
          refine ⟨m + nbS s.V (16 * e + m), by omega, by omega, ?_, fun i hi hL => ?_, fun i h1 h2 hL => ?_⟩
          · rw [e1, m3, cnt_all (p := fun i => lvB s (16 * e + i)) (nbS s.V (16 * e + m)) (fun i h1 h2 => lvB_iff.mpr ⟨16 * e + m, hL0, by omega, by omega⟩)]
          · by_cases ci : i = m
            · rw [ci]; exact Nat.le_refl _
            · have := m4 i (by omega) hL
              omega
          · have q7 := w7 (16 * e + m) (16 * e + i) hL0 hL (by omega)
            have q7 : 16 * e + m + nbS s.V (16 * e + m) ≤ 16 * e + i := q7
            omega
      · have hnl : ¬ Lv s.ch s.tb (16 * e + n) := m5 n (Nat.le_refl _) (by omega)
        have hf : lvS s (16 * e + n) = false := by
          cases hl : lvS s (16 * e + n) with
          | false => rfl
          | true => exact absurd (lvS_iff.mp hl) hnl
        rw [hf] at e1
        refine ⟨m, by omega, m2, by rw [e1, m3]; rfl, fun i hi hL => ?_, fun i h1 h2 => m5 i (by omega) h2⟩
        by_cases ci : i = n
        · rw [ci] at hL; exact absurd hL hnl
        · exact m4 i (by omega) hL
  obtain ⟨m, m1, m2, m3, _⟩ := key 16 (by omega)
  rw [m3, show m = 16 by omega]
theorem RP.rd2 {c : Nat} {M : Mm} {r : Nat} {s : Ms} (h : RP M r s) (hi : IvS c s) : RD2 M r s.dk s.ws s.md := ⟨h.1, h.2.2.2.1.2.2.2, h.2.1.2.1, by have : s.ws.length ≤ 120 := hi.2.2.1.1; omega, h.2.2.1.2.1, hi.nb, hi.bt⟩
theorem f147 {d : Nat} {M : Mm} {k : mQ} {r p : Nat} {s : Ms} (h : RP M r s) (hp : p < 1000) (hk : k (some (.inl (oI (fst_ (isAt s.ch s.tb p) 0 48)))) M) : XC (d + 2) 147 [.inr (some r), .inl (nI p)] M k := e147 h.1 h.2.2.2.1.2.1 h.2.2.2.1.2.2.1 h.2.1.1.2.2.2.2.1 h.2.2.2.2.2.2.1 h.2.2.2.2.2.1 (fun z hz => (h.2.2.2.2.2.2.2.1 z hz).1) hp hk
theorem f146 {d : Nat} {M : Mm} {k : mQ} {r p : Nat} {s : Ms} (h : RP M r s) (hp : p < 1000) (hk : k (some (.inl (bI (s.tb.any (fun z => z.1 == p))))) M) : XC (d + 1) 146 [.inr (some r), .inl (nI p)] M k := e146 h.1 h.2.2.2.1.1 h.2.1.1.2.2.2.2.1 h.2.2.2.2.2.2.1 (fun z hz => (h.2.2.2.2.2.2.2.1 z hz).2) hp hk
theorem d159 {d c : Nat} {M : Mm} {k : mQ} {r : Nat} {s : Ms} {x y : Int32} (h : RP M r s) (hi : IvS c s) (hk : ∀ M', RP M' r s → Rr r M M' → k (some (.inl (mExt x y s).1)) M') : XC (d + 4) 159 [.inr (some r), .inl x, .inl y] M k := by
  obtain ⟨h1, o1⟩ := h.th
  have hk1 := hk _ h1 (o1.rr (fun _ q => q.elim))
  clear hk
  generalize hM1 : M.si r 0 0 = M1 at h1 o1 hk1
  have hs := h.1
  have hs1 := h1.1
  have h5 : M1.it r 5 = bI s.off := h1.2.1.1.2.1
  unfold mExt at hk1
  refine xc ?_
  show X (d + 3) 159 0 [some (.inr (some r)), some (.inl x), some (.inl y), none, none] [] M k
  cases ho : s.off with
  | true =>
    rw [ho, bI_t] at h5
    have hn : k (some (.inl (-1))) M1 := by
      cases he : idx x 8 with
      | none => rw [he] at hk1; exact hk1
      | some j =>
        rw [he] at hk1
        have hk1 : k (some (.inl (if s.off = true then -1 else exN y s j))) M1 := hk1
        rw [if_pos ho] at hk1
        exact hk1
    refine vc_X 20 _ _ _ _ _ _ _ ?_
    simp only [↓v159_0, ↓v159_1, ↓v159_2, ↓v159_5, ↓v159_6, ↓v159_9, ↓v159_12, ↓v159_13, ↓v159_16, ↓v159_17, ↓v159_19, ↓v159_22, ↓v159_23, ↓v159_26, ↓v159_27, ↓v159_28, ↓v159_31, ↓v159_32, ↓v159_33, ↓v159_34, ↓v159_37, ↓v159_38, ↓v159_41, ↓v159_42, ↓v159_43, ↓v159_44, ↓v159_45, ↓v159_46, ↓v159_48, ↓v159_49, ↓v159_50, ↓v159_52, ↓v159_54, ↓v159_56, ↓v159_57, ↓v159_58, ↓v159_60, ↓v159_61, ↓v159_64, ↓v159_65, ↓v159_67, ↓v159_70, ↓v159_71, ↓v159_74, ↓v159_75, ↓v159_77, ↓v159_80, ↓v159_83, ↓v159_84, ↓v159_85, ↓v159_87, ↓v159_90, ↓v159_93, ↓v159_94, ↓v159_95, ↓v159_98, ↓v159_101, ↓v159_102, ↓qI_c, ↓qL_c, ↓qR_c, ↓pA_o, ↓qC_i, ↓qC_r, ↓oA_s, ↓gI_0, ↓gI_1, ↓gI_2, ↓gI_3, ↓gI_4, ↓gI_5, ↓gI_6, ↓gI_7, ↓gI_8, ↓gI_9, ↓gI_10, ↓gR_0, ↓gR_1, ↓gR_2, ↓gR_3, ↓gR_4, ↓gR_5, ↓gR_6, ↓gR_7, ↓gR_8, ↓gR_9, ↓gR_10, ↓sL_0, ↓sL_1, ↓sL_2, ↓sL_3, ↓sL_4, ↓sL_5, ↓sL_6, ↓sL_7, ↓sL_8, ↓sL_9, ↓sL_10, ↓rrf_si, ↓rrf_sg, ↓shO_si, ↓shO_sg, ↓shO_sr, ↓shA_si, ↓shA_sg, ↓shA_sr, ↓pAs_0, ↓pAs_i, ↓pAs_r, stk_n, stk_i, stk_l, stk_r, List.nil_append, List.cons_append, true_and, and_true, true_or, or_true, Nat.zero_add, dp_s, Nat.reduceAdd, le8_0, le8_1, le8_2, le8_3, le8_4, le8_5, le8_6, le8_7, le8_8, Classical.not_not, aT40, aT41, aT42, aT44, aT54, aT58, aT59, rT54, rT58, rT59, reduceIte, Nat.reduceEqDiff, qn_42, qn_44, true_implies, not_true_eq_false, not_false_eq_true, false_implies, hM1, ↓shO_of hs.1.1, h5, i10]
    exact hn
  | false =>
    rw [ho, bI_f] at h5
    cases he : idx x 8 with
    | none =>
      rw [he] at hk1
      have := idx_no he
      unfold inB at this
      refine vc_X 20 _ _ _ _ _ _ _ ?_
      simp only [↓v159_0, ↓v159_1, ↓v159_2, ↓v159_5, ↓v159_6, ↓v159_9, ↓v159_12, ↓v159_13, ↓v159_16, ↓v159_17, ↓v159_19, ↓v159_22, ↓v159_23, ↓v159_26, ↓v159_27, ↓v159_28, ↓v159_31, ↓v159_32, ↓v159_33, ↓v159_34, ↓v159_37, ↓v159_38, ↓v159_41, ↓v159_42, ↓v159_43, ↓v159_44, ↓v159_45, ↓v159_46, ↓v159_48, ↓v159_49, ↓v159_50, ↓v159_52, ↓v159_54, ↓v159_56, ↓v159_57, ↓v159_58, ↓v159_60, ↓v159_61, ↓v159_64, ↓v159_65, ↓v159_67, ↓v159_70, ↓v159_71, ↓v159_74, ↓v159_75, ↓v159_77, ↓v159_80, ↓v159_83, ↓v159_84, ↓v159_85, ↓v159_87, ↓v159_90, ↓v159_93, ↓v159_94, ↓v159_95, ↓v159_98, ↓v159_101, ↓v159_102, ↓qI_c, ↓qL_c, ↓qR_c, ↓pA_o, ↓qC_i, ↓qC_r, ↓oA_s, ↓gI_0, ↓gI_1, ↓gI_2, ↓gI_3, ↓gI_4, ↓gI_5, ↓gI_6, ↓gI_7, ↓gI_8, ↓gI_9, ↓gI_10, ↓gR_0, ↓gR_1, ↓gR_2, ↓gR_3, ↓gR_4, ↓gR_5, ↓gR_6, ↓gR_7, ↓gR_8, ↓gR_9, ↓gR_10, ↓sL_0, ↓sL_1, ↓sL_2, ↓sL_3, ↓sL_4, ↓sL_5, ↓sL_6, ↓sL_7, ↓sL_8, ↓sL_9, ↓sL_10, ↓rrf_si, ↓rrf_sg, ↓shO_si, ↓shO_sg, ↓shO_sr, ↓shA_si, ↓shA_sg, ↓shA_sr, ↓pAs_0, ↓pAs_i, ↓pAs_r, stk_n, stk_i, stk_l, stk_r, List.nil_append, List.cons_append, true_and, and_true, true_or, or_true, Nat.zero_add, dp_s, Nat.reduceAdd, le8_0, le8_1, le8_2, le8_3, le8_4, le8_5, le8_6, le8_7, le8_8, Classical.not_not, aT40, aT41, aT42, aT44, aT54, aT58, aT59, rT54, rT58, rT59, reduceIte, Nat.reduceEqDiff, qn_42, qn_44, true_implies, not_true_eq_false, not_false_eq_true, false_implies, hM1, ↓shO_of hs.1.1, h5, i00, lt_T, le_T, T_0, T_8]
      fail
    | some j =>
      rw [he] at hk1
      obtain ⟨rfl, hj⟩ := idx_n he
      have hk1 : k (some (.inl (if s.off = true then -1 else exN y s j))) M1 := hk1
      rw [if_neg (by rw [ho]; decide)] at hk1
      unfold exN at hk1
      refine vc_X 20 _ _ _ _ _ _ _ ?_
      simp only [↓v159_0, ↓v159_1, ↓v159_2, ↓v159_5, ↓v159_6, ↓v159_9, ↓v159_12, ↓v159_13, ↓v159_16, ↓v159_17, ↓v159_19, ↓v159_22, ↓v159_23, ↓v159_26, ↓v159_27, ↓v159_28, ↓v159_31, ↓v159_32, ↓v159_33, ↓v159_34, ↓v159_37, ↓v159_38, ↓v159_41, ↓v159_42, ↓v159_43, ↓v159_44, ↓v159_45, ↓v159_46, ↓v159_48, ↓v159_49, ↓v159_50, ↓v159_52, ↓v159_54, ↓v159_56, ↓v159_57, ↓v159_58, ↓v159_60, ↓v159_61, ↓v159_64, ↓v159_65, ↓v159_67, ↓v159_70, ↓v159_71, ↓v159_74, ↓v159_75, ↓v159_77, ↓v159_80, ↓v159_83, ↓v159_84, ↓v159_85, ↓v159_87, ↓v159_90, ↓v159_93, ↓v159_94, ↓v159_95, ↓v159_98, ↓v159_101, ↓v159_102, ↓qI_c, ↓qL_c, ↓qR_c, ↓pA_o, ↓qC_i, ↓qC_r, ↓oA_s, ↓gI_0, ↓gI_1, ↓gI_2, ↓gI_3, ↓gI_4, ↓gI_5, ↓gI_6, ↓gI_7, ↓gI_8, ↓gI_9, ↓gI_10, ↓gR_0, ↓gR_1, ↓gR_2, ↓gR_3, ↓gR_4, ↓gR_5, ↓gR_6, ↓gR_7, ↓gR_8, ↓gR_9, ↓gR_10, ↓sL_0, ↓sL_1, ↓sL_2, ↓sL_3, ↓sL_4, ↓sL_5, ↓sL_6, ↓sL_7, ↓sL_8, ↓sL_9, ↓sL_10, ↓rrf_si, ↓rrf_sg, ↓shO_si, ↓shO_sg, ↓shO_sr, ↓shA_si, ↓shA_sg, ↓shA_sr, ↓pAs_0, ↓pAs_i, ↓pAs_r, stk_n, stk_i, stk_l, stk_r, List.nil_append, List.cons_append, true_and, and_true, true_or, or_true, Nat.zero_add, dp_s, Nat.reduceAdd, le8_0, le8_1, le8_2, le8_3, le8_4, le8_5, le8_6, le8_7, le8_8, Classical.not_not, aT40, aT41, aT42, aT44, aT54, aT58, aT59, rT54, rT58, rT59, reduceIte, Nat.reduceEqDiff, qn_42, qn_44, true_implies, not_true_eq_false, not_false_eq_true, false_implies, hM1, ↓shO_of hs.1.1, h5, i00, lt_T, le_T, T_0, T_8, nT (show j < 2147483648 by omega)]
      fail
