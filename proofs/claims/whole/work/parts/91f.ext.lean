/-! the reference: extent, about -/
def lvS (s : Ms) (p : Nat) : Bool := (fst_ (isAt s.ch s.tb p) 0 48).isSome || s.tb.any (fun z => z.1 == p)
def lsum (s : Ms) (e : Nat) : Nat → Nat
  | 0 => 0
  | n + 1 => lsum s e n + (if lvS s (16 * e + n) then nbS s.V (16 * e + n) else 0)
theorem lvS_iff {s : Ms} {p : Nat} : lvS s p = true ↔ Lv s.ch s.tb p := by
  unfold lvS Lv
  rw [Bool.or_eq_true, List.any_eq_true]
  constructor
  · intro h
    rcases h with h | ⟨z, hz, e⟩
    · cases hf : fst_ (isAt s.ch s.tb p) 0 48 with
      | none => rw [hf] at h; cases h
      | some q =>
        obtain ⟨h1, h2, h3⟩ := fst_spec _ _ _ _ hf
        unfold isAt at h1
        rw [beq_iff_eq] at h1
        exact Or.inl ⟨q, by omega, h1⟩
    · rw [beq_iff_eq] at e
      exact Or.inr ⟨z, hz, e⟩
  · intro h
    rcases h with ⟨q, hq, h⟩ | ⟨z, hz, e⟩
    · left
      cases hf : fst_ (isAt s.ch s.tb p) 0 48 with
      | some q => rfl
      | none =>
        have := fst_none _ _ _ hf q (by omega) (by omega)
        unfold isAt at this
        rw [h] at this
        simp at this
    · exact Or.inr ⟨z, hz, by rw [beq_iff_eq]; exact e⟩
theorem lvB_iff {s : Ms} {b : Nat} : lvB s b = true ↔ Rch s.ch s.tb s.V b := by
  unfold lvB Rch
  rw [Bool.or_eq_true, mkB_iff, List.any_eq_true]
  constructor
  · intro h
    rcases h with ⟨q, p, hq, hp, h⟩ | ⟨z, hz, h⟩
    · have hp : noG (plO s.ch s.tb (some q)) = some p := hp
      unfold plO at hp
      rw [noG_noG] at hp
      exact ⟨p, Or.inl ⟨q, hq, hp⟩, h⟩
    · rw [Bool.and_eq_true, decide_eq_true_eq, decide_eq_true_eq] at h
      exact ⟨z.1, Or.inr ⟨z, hz, rfl⟩, h⟩
  · intro ⟨p, hp, h⟩
    rcases hp with ⟨q, hq, hp⟩ | ⟨z, hz, e⟩
    · refine Or.inl ⟨q, p, hq, ?_, h⟩
      show noG (plO s.ch s.tb (some q)) = some p
      unfold plO at hp ⊢
      rw [noG_noG]
      exact hp
    · subst e
      refine Or.inr ⟨z, hz, ?_⟩
      rw [Bool.and_eq_true, decide_eq_true_eq, decide_eq_true_eq]
      exact h
theorem cnt_all {p : Nat → Bool} {m : Nat} : ∀ n, (∀ i, m ≤ i → i < m + n → p i = true) → cnt p (m + n) = cnt p m + n
  | 0, _ => rfl
  | n + 1, h => by
    show cnt p (m + n) + (if p (m + n) then 1 else 0) = cnt p m + (n + 1)
    rw [cnt_all n (fun i h1 h2 => h i h1 (by omega)), h (m + n) (by omega) (by omega), if_pos rfl]
    omega
/-- live chunks do not overlap: their blocks are counted by their beginnings -/
theorem lsum_eq {s : Ms} (o : On_ s) {e : Nat} (he : e < 8) : lsum s e 16 = cnt (fun i => lvB s (16 * e + i)) 16 := by
  obtain ⟨w1, w2, w3, w4, w5, w6, w7, w8⟩ := o.2.2.2.1
  have key : ∀ n, n ≤ 16 → ∃ m, n ≤ m ∧ m ≤ 16 ∧ lsum s e n = cnt (fun i => lvB s (16 * e + i)) m ∧ (∀ i, i < n → Lv s.ch s.tb (16 * e + i) → i + nbS s.V (16 * e + i) ≤ m) ∧ ∀ i, n ≤ i → i < m → ¬ Lv s.ch s.tb (16 * e + i) := by
    intro n
    induction n with
    | zero => intro _; exact ⟨0, by omega, by omega, rfl, fun i hi => by omega, fun i h1 h2 => by omega⟩
    | succ n ih =>
      intro hn
      obtain ⟨m, m1, m2, m3, m4, m5⟩ := ih (by omega)
      have e1 : lsum s e (n + 1) = lsum s e n + (if lvS s (16 * e + n) then nbS s.V (16 * e + n) else 0) := rfl
      by_cases c : m = n
      · subst c
        cases hl : lvS s (16 * e + m) with
        | false =>
          have hnl : ¬ Lv s.ch s.tb (16 * e + m) := fun q => by rw [lvS_iff.mpr q] at hl; cases hl
          rw [hl] at e1
          have e2 : cnt (fun i => lvB s (16 * e + i)) (m + 1) = cnt (fun i => lvB s (16 * e + i)) m + (if lvB s (16 * e + m) then 1 else 0) := rfl
          have hf : lvB s (16 * e + m) = false := by
            cases hb : lvB s (16 * e + m) with
            | false => rfl
            | true =>
              exfalso
              obtain ⟨p, hp, p1, p2⟩ := lvB_iff.mp hb
              have hp0 := hp.lt o.2.2.2.1
              have q6 : p % 16 + nbS s.V p ≤ s.pt (p / 16) := w6 p hp
              have q1 := w1 (p / 16) (by omega)
              have pe : p = 16 * e + (p - 16 * e) := by omega
              by_cases cp : p = 16 * e + m
              · rw [cp] at hp; exact hnl hp
              · rw [pe] at hp p2
                have := m4 (p - 16 * e) (by omega) hp
                omega
          refine ⟨m + 1, by omega, by omega, ?_, fun i hi hL => ?_, fun i h1 h2 => by omega⟩
          · rw [e2, hf, e1, m3]
            rfl
          · by_cases ci : i = m
            · rw [ci] at hL; exact absurd hL hnl
            · have := m4 i (by omega) hL
              omega
        | true =>
          have hL0 : Lv s.ch s.tb (16 * e + m) := lvS_iff.mp hl
          have hp0 := hL0.lt o.2.2.2.1
          have q6 : (16 * e + m) % 16 + nbS s.V (16 * e + m) ≤ s.pt ((16 * e + m) / 16) := w6 _ hL0
          have q1 := w1 ((16 * e + m) / 16) (by omega)
          have n1 := nbS_pos s.V (16 * e + m)
          rw [hl, if_pos rfl] at e1
          refine ⟨m + nbS s.V (16 * e + m), by omega, by omega, ?_, fun i hi hL => ?_, fun i h1 h2 hL => ?_⟩
          · rw [e1, m3, cnt_all (p := fun i => lvB s (16 * e + i)) (nbS s.V (16 * e + m)) (fun i h1 h2 => lvB_iff.mpr ⟨16 * e + m, hL0, by omega, by omega⟩)]
          · by_cases ci : i = m
            · rw [ci]; exact Nat.le_refl _
            · have := m4 i (by omega) hL
              omega
          · have q7 := w7 (16 * e + m) (16 * e + i) hL0 hL (by omega)
            have q7 : 16 * e + m + nbS s.V (16 * e + m) ≤ 16 * e + i := q7
            omega
      · have hnl : ¬ Lv s.ch s.tb (16 * e + n) := m5 n (Nat.le_refl _) (by omega)
        have hf : lvS s (16 * e + n) = false := by
          cases hl : lvS s (16 * e + n) with
          | false => rfl
          | true => exact absurd (lvS_iff.mp hl) hnl
        rw [hf] at e1
        refine ⟨m, by omega, m2, by rw [e1, m3]; rfl, fun i hi hL => ?_, fun i h1 h2 => m5 i (by omega) h2⟩
        by_cases ci : i = n
        · rw [ci] at hL; exact absurd hL hnl
        · exact m4 i (by omega) hL
  obtain ⟨m, m1, m2, m3, _⟩ := key 16 (by omega)
  rw [m3, show m = 16 by omega]
theorem RP.rd2 {c : Nat} {M : Mm} {r : Nat} {s : Ms} (h : RP M r s) (hi : IvS c s) : RD2 M r s.dk s.ws s.md := ⟨h.1, h.2.2.2.1.2.2.2, h.2.1.2.1, by have : s.ws.length ≤ 120 := hi.2.2.1.1; omega, h.2.2.1.2.1, hi.nb, hi.bt⟩
theorem f147 {d : Nat} {M : Mm} {k : mQ} {r p : Nat} {s : Ms} (h : RP M r s) (hp : p < 1000) (hk : k (some (.inl (oI (fst_ (isAt s.ch s.tb p) 0 48)))) M) : XC (d + 2) 147 [.inr (some r), .inl (nI p)] M k := e147 h.1 h.2.2.2.1.2.1 h.2.2.2.1.2.2.1 h.2.1.1.2.2.2.2.1 h.2.2.2.2.2.2.1 h.2.2.2.2.2.1 (fun z hz => (h.2.2.2.2.2.2.2.1 z hz).1) hp hk
theorem f146 {d : Nat} {M : Mm} {k : mQ} {r p : Nat} {s : Ms} (h : RP M r s) (hp : p < 1000) (hk : k (some (.inl (bI (s.tb.any (fun z => z.1 == p))))) M) : XC (d + 1) 146 [.inr (some r), .inl (nI p)] M k := e146 h.1 h.2.2.2.1.1 h.2.1.1.2.2.2.2.1 h.2.2.2.2.2.2.1 (fun z hz => (h.2.2.2.2.2.2.2.1 z hz).2) hp hk
theorem d159 {d c : Nat} {M : Mm} {k : mQ} {r : Nat} {s : Ms} {x y : Int32} (h : RP M r s) (hi : IvS c s) (hk : ∀ M', RP M' r s → Rr r M M' → k (some (.inl (mExt x y s).1)) M') : XC (d + 4) 159 [.inr (some r), .inl x, .inl y] M k := by
  obtain ⟨h1, o1⟩ := h.th
  have hk1 := hk _ h1 (o1.rr (fun _ q => q.elim))
  clear hk
  generalize hM1 : M.si r 0 0 = M1 at h1 o1 hk1
  have hs := h.1
  have hs1 := h1.1
  have h5 : M1.it r 5 = bI s.off := h1.2.1.1.2.1
  unfold mExt at hk1
  refine xc ?_
  show X (d + 3) 159 0 [some (.inr (some r)), some (.inl x), some (.inl y), none, none] [] M k
  cases ho : s.off with
  | true =>
    rw [ho, bI_t] at h5
    have hn : k (some (.inl (-1))) M1 := by
      cases he : idx x 8 with
      | none => rw [he] at hk1; exact hk1
      | some j =>
        rw [he] at hk1
        have hk1 : k (some (.inl (if s.off = true then -1 else exN y s j))) M1 := hk1
        rw [if_pos ho] at hk1
        exact hk1
    refine vc_X 20 _ _ _ _ _ _ _ ?_
    simp only [↓v159_0, ↓v159_1, ↓v159_2, ↓v159_5, ↓v159_6, ↓v159_9, ↓v159_12, ↓v159_13, ↓v159_16, ↓v159_17, ↓v159_19, ↓v159_22, ↓v159_23, ↓v159_26, ↓v159_27, ↓v159_28, ↓v159_31, ↓v159_32, ↓v159_33, ↓v159_34, ↓v159_37, ↓v159_38, ↓v159_41, ↓v159_42, ↓v159_43, ↓v159_44, ↓v159_45, ↓v159_46, ↓v159_48, ↓v159_49, ↓v159_50, ↓v159_52, ↓v159_54, ↓v159_56, ↓v159_57, ↓v159_58, ↓v159_60, ↓v159_61, ↓v159_64, ↓v159_65, ↓v159_67, ↓v159_70, ↓v159_71, ↓v159_74, ↓v159_75, ↓v159_77, ↓v159_80, ↓v159_83, ↓v159_84, ↓v159_85, ↓v159_87, ↓v159_90, ↓v159_93, ↓v159_94, ↓v159_95, ↓v159_98, ↓v159_101, ↓v159_102, ↓qI_c, ↓qL_c, ↓qR_c, ↓pA_o, ↓qC_i, ↓qC_r, ↓oA_s, ↓gI_0, ↓gI_1, ↓gI_2, ↓gI_3, ↓gI_4, ↓gI_5, ↓gI_6, ↓gI_7, ↓gI_8, ↓gI_9, ↓gI_10, ↓gR_0, ↓gR_1, ↓gR_2, ↓gR_3, ↓gR_4, ↓gR_5, ↓gR_6, ↓gR_7, ↓gR_8, ↓gR_9, ↓gR_10, ↓sL_0, ↓sL_1, ↓sL_2, ↓sL_3, ↓sL_4, ↓sL_5, ↓sL_6, ↓sL_7, ↓sL_8, ↓sL_9, ↓sL_10, ↓rrf_si, ↓rrf_sg, ↓shO_si, ↓shO_sg, ↓shO_sr, ↓shA_si, ↓shA_sg, ↓shA_sr, ↓pAs_0, ↓pAs_i, ↓pAs_r, stk_n, stk_i, stk_l, stk_r, List.nil_append, List.cons_append, true_and, and_true, true_or, or_true, Nat.zero_add, dp_s, Nat.reduceAdd, le8_0, le8_1, le8_2, le8_3, le8_4, le8_5, le8_6, le8_7, le8_8, Classical.not_not, aT40, aT41, aT42, aT44, aT54, aT58, aT59, rT54, rT58, rT59, reduceIte, Nat.reduceEqDiff, qn_42, qn_44, true_implies, not_true_eq_false, not_false_eq_true, false_implies, hM1, ↓shO_of hs.1.1, h5, i10]
    exact hn
  | false =>
    rw [ho, bI_f] at h5
    cases he : idx x 8 with
    | none =>
      rw [he] at hk1
      have := idx_no he
      unfold inB at this
      refine vc_X 20 _ _ _ _ _ _ _ ?_
      simp only [↓v159_0, ↓v159_1, ↓v159_2, ↓v159_5, ↓v159_6, ↓v159_9, ↓v159_12, ↓v159_13, ↓v159_16, ↓v159_17, ↓v159_19, ↓v159_22, ↓v159_23, ↓v159_26, ↓v159_27, ↓v159_28, ↓v159_31, ↓v159_32, ↓v159_33, ↓v159_34, ↓v159_37, ↓v159_38, ↓v159_41, ↓v159_42, ↓v159_43, ↓v159_44, ↓v159_45, ↓v159_46, ↓v159_48, ↓v159_49, ↓v159_50, ↓v159_52, ↓v159_54, ↓v159_56, ↓v159_57, ↓v159_58, ↓v159_60, ↓v159_61, ↓v159_64, ↓v159_65, ↓v159_67, ↓v159_70, ↓v159_71, ↓v159_74, ↓v159_75, ↓v159_77, ↓v159_80, ↓v159_83, ↓v159_84, ↓v159_85, ↓v159_87, ↓v159_90, ↓v159_93, ↓v159_94, ↓v159_95, ↓v159_98, ↓v159_101, ↓v159_102, ↓qI_c, ↓qL_c, ↓qR_c, ↓pA_o, ↓qC_i, ↓qC_r, ↓oA_s, ↓gI_0, ↓gI_1, ↓gI_2, ↓gI_3, ↓gI_4, ↓gI_5, ↓gI_6, ↓gI_7, ↓gI_8, ↓gI_9, ↓gI_10, ↓gR_0, ↓gR_1, ↓gR_2, ↓gR_3, ↓gR_4, ↓gR_5, ↓gR_6, ↓gR_7, ↓gR_8, ↓gR_9, ↓gR_10, ↓sL_0, ↓sL_1, ↓sL_2, ↓sL_3, ↓sL_4, ↓sL_5, ↓sL_6, ↓sL_7, ↓sL_8, ↓sL_9, ↓sL_10, ↓rrf_si, ↓rrf_sg, ↓shO_si, ↓shO_sg, ↓shO_sr, ↓shA_si, ↓shA_sg, ↓shA_sr, ↓pAs_0, ↓pAs_i, ↓pAs_r, stk_n, stk_i, stk_l, stk_r, List.nil_append, List.cons_append, true_and, and_true, true_or, or_true, Nat.zero_add, dp_s, Nat.reduceAdd, le8_0, le8_1, le8_2, le8_3, le8_4, le8_5, le8_6, le8_7, le8_8, Classical.not_not, aT40, aT41, aT42, aT44, aT54, aT58, aT59, rT54, rT58, rT59, reduceIte, Nat.reduceEqDiff, qn_42, qn_44, true_implies, not_true_eq_false, not_false_eq_true, false_implies, hM1, ↓shO_of hs.1.1, h5, i00, lt_T, le_T, T_0, T_8]
      exact ⟨fun _ => hk1, fun c1 => ⟨fun _ => hk1, fun c2 => absurd ⟨by omega, by omega⟩ this⟩⟩
    | some j =>
      rw [he] at hk1
      obtain ⟨rfl, hj⟩ := idx_n he
      have hk1 : k (some (.inl (if s.off = true then -1 else exN y s j))) M1 := hk1
      rw [if_neg (by rw [ho]; decide)] at hk1
      unfold exN at hk1
      refine vc_X 20 _ _ _ _ _ _ _ ?_
      simp only [↓v159_0, ↓v159_1, ↓v159_2, ↓v159_5, ↓v159_6, ↓v159_9, ↓v159_12, ↓v159_13, ↓v159_16, ↓v159_17, ↓v159_19, ↓v159_22, ↓v159_23, ↓v159_26, ↓v159_27, ↓v159_28, ↓v159_31, ↓v159_32, ↓v159_33, ↓v159_34, ↓v159_37, ↓v159_38, ↓v159_41, ↓v159_42, ↓v159_43, ↓v159_44, ↓v159_45, ↓v159_46, ↓v159_48, ↓v159_49, ↓v159_50, ↓v159_52, ↓v159_54, ↓v159_56, ↓v159_57, ↓v159_58, ↓v159_60, ↓v159_61, ↓v159_64, ↓v159_65, ↓v159_67, ↓v159_70, ↓v159_71, ↓v159_74, ↓v159_75, ↓v159_77, ↓v159_80, ↓v159_83, ↓v159_84, ↓v159_85, ↓v159_87, ↓v159_90, ↓v159_93, ↓v159_94, ↓v159_95, ↓v159_98, ↓v159_101, ↓v159_102, ↓qI_c, ↓qL_c, ↓qR_c, ↓pA_o, ↓qC_i, ↓qC_r, ↓oA_s, ↓gI_0, ↓gI_1, ↓gI_2, ↓gI_3, ↓gI_4, ↓gI_5, ↓gI_6, ↓gI_7, ↓gI_8, ↓gI_9, ↓gI_10, ↓gR_0, ↓gR_1, ↓gR_2, ↓gR_3, ↓gR_4, ↓gR_5, ↓gR_6, ↓gR_7, ↓gR_8, ↓gR_9, ↓gR_10, ↓sL_0, ↓sL_1, ↓sL_2, ↓sL_3, ↓sL_4, ↓sL_5, ↓sL_6, ↓sL_7, ↓sL_8, ↓sL_9, ↓sL_10, ↓rrf_si, ↓rrf_sg, ↓shO_si, ↓shO_sg, ↓shO_sr, ↓shA_si, ↓shA_sg, ↓shA_sr, ↓pAs_0, ↓pAs_i, ↓pAs_r, stk_n, stk_i, stk_l, stk_r, List.nil_append, List.cons_append, true_and, and_true, true_or, or_true, Nat.zero_add, dp_s, Nat.reduceAdd, le8_0, le8_1, le8_2, le8_3, le8_4, le8_5, le8_6, le8_7, le8_8, Classical.not_not, aT40, aT41, aT42, aT44, aT54, aT58, aT59, rT54, rT58, rT59, reduceIte, Nat.reduceEqDiff, qn_42, qn_44, true_implies, not_true_eq_false, not_false_eq_true, false_implies, hM1, ↓shO_of hs.1.1, h5, i00, lt_T, le_T, T_0, T_8, nT (show j < 2147483648 by omega)]
      have hpt := (h1.2.2.1.2.2.2.1 j hj).1
      refine ⟨fun c => by omega, fun _ => ⟨fun c => by omega, fun _ => ⟨fun y0 => ?_, fun y0 => ⟨fun y1 => ?_, fun y1 => ?_⟩⟩⟩⟩
      · subst y0
        refine vc_X 20 _ _ _ _ _ _ _ ?_
        simp only [↓v159_0, ↓v159_1, ↓v159_2, ↓v159_5, ↓v159_6, ↓v159_9, ↓v159_12, ↓v159_13, ↓v159_16, ↓v159_17, ↓v159_19, ↓v159_22, ↓v159_23, ↓v159_26, ↓v159_27, ↓v159_28, ↓v159_31, ↓v159_32, ↓v159_33, ↓v159_34, ↓v159_37, ↓v159_38, ↓v159_41, ↓v159_42, ↓v159_43, ↓v159_44, ↓v159_45, ↓v159_46, ↓v159_48, ↓v159_49, ↓v159_50, ↓v159_52, ↓v159_54, ↓v159_56, ↓v159_57, ↓v159_58, ↓v159_60, ↓v159_61, ↓v159_64, ↓v159_65, ↓v159_67, ↓v159_70, ↓v159_71, ↓v159_74, ↓v159_75, ↓v159_77, ↓v159_80, ↓v159_83, ↓v159_84, ↓v159_85, ↓v159_87, ↓v159_90, ↓v159_93, ↓v159_94, ↓v159_95, ↓v159_98, ↓v159_101, ↓v159_102, ↓qI_c, ↓qL_c, ↓qR_c, ↓pA_o, ↓qC_i, ↓qC_r, ↓oA_s, ↓gI_0, ↓gI_1, ↓gI_2, ↓gI_3, ↓gI_4, ↓gI_5, ↓gI_6, ↓gI_7, ↓gI_8, ↓gI_9, ↓gI_10, ↓gR_0, ↓gR_1, ↓gR_2, ↓gR_3, ↓gR_4, ↓gR_5, ↓gR_6, ↓gR_7, ↓gR_8, ↓gR_9, ↓gR_10, ↓sL_0, ↓sL_1, ↓sL_2, ↓sL_3, ↓sL_4, ↓sL_5, ↓sL_6, ↓sL_7, ↓sL_8, ↓sL_9, ↓sL_10, ↓rrf_si, ↓rrf_sg, ↓shO_si, ↓shO_sg, ↓shO_sr, ↓shA_si, ↓shA_sg, ↓shA_sr, ↓pAs_0, ↓pAs_i, ↓pAs_r, stk_n, stk_i, stk_l, stk_r, List.nil_append, List.cons_append, true_and, and_true, true_or, or_true, Nat.zero_add, dp_s, Nat.reduceAdd, le8_0, le8_1, le8_2, le8_3, le8_4, le8_5, le8_6, le8_7, le8_8, Classical.not_not, aT40, aT41, aT42, aT44, aT54, aT58, aT59, rT54, rT58, rT59, reduceIte, Nat.reduceEqDiff, qn_42, qn_44, true_implies, not_true_eq_false, not_false_eq_true, false_implies, ↓shO_of hs1.1.1, ↓rrf_of hs1.1.2.2.2.2.1, ↓shA_of hs1.2.2.2.1.2.2.2.1, nC (show j < 2147483648 by omega), hpt]
        exact ⟨inB_n (by omega) (by omega), hk1⟩
      · subst y1
        rw [if_neg y0, if_pos rfl, ← lsum_eq (hi.1 ho) hj] at hk1
        have hrd := h1.rd2 hi
        have lop : ∀ m i, i + m = 16 → X (d + 3) 159 52 [some (.inr (some r)), some (.inl (nI j)), some (.inl 1), some (.inl (nI (lsum s j i))), some (.inl (nI (16 * j + i)))] [] M1 k := by
          intro m
          induction m with
          | zero =>
            intro i hi2
            have e : i = 16 := by omega
            subst e
            have e1 : (16 : Int32) * nI j + 16 = nI (16 * j + 16) := by rw [n_16, pk_mul, nI_add]
            refine vc_X 20 _ _ _ _ _ _ _ ?_
            simp only [↓v159_0, ↓v159_1, ↓v159_2, ↓v159_5, ↓v159_6, ↓v159_9, ↓v159_12, ↓v159_13, ↓v159_16, ↓v159_17, ↓v159_19, ↓v159_22, ↓v159_23, ↓v159_26, ↓v159_27, ↓v159_28, ↓v159_31, ↓v159_32, ↓v159_33, ↓v159_34, ↓v159_37, ↓v159_38, ↓v159_41, ↓v159_42, ↓v159_43, ↓v159_44, ↓v159_45, ↓v159_46, ↓v159_48, ↓v159_49, ↓v159_50, ↓v159_52, ↓v159_54, ↓v159_56, ↓v159_57, ↓v159_58, ↓v159_60, ↓v159_61, ↓v159_64, ↓v159_65, ↓v159_67, ↓v159_70, ↓v159_71, ↓v159_74, ↓v159_75, ↓v159_77, ↓v159_80, ↓v159_83, ↓v159_84, ↓v159_85, ↓v159_87, ↓v159_90, ↓v159_93, ↓v159_94, ↓v159_95, ↓v159_98, ↓v159_101, ↓v159_102, ↓qI_c, ↓qL_c, ↓qR_c, ↓pA_o, ↓qC_i, ↓qC_r, ↓oA_s, ↓gI_0, ↓gI_1, ↓gI_2, ↓gI_3, ↓gI_4, ↓gI_5, ↓gI_6, ↓gI_7, ↓gI_8, ↓gI_9, ↓gI_10, ↓gR_0, ↓gR_1, ↓gR_2, ↓gR_3, ↓gR_4, ↓gR_5, ↓gR_6, ↓gR_7, ↓gR_8, ↓gR_9, ↓gR_10, ↓sL_0, ↓sL_1, ↓sL_2, ↓sL_3, ↓sL_4, ↓sL_5, ↓sL_6, ↓sL_7, ↓sL_8, ↓sL_9, ↓sL_10, ↓rrf_si, ↓rrf_sg, ↓shO_si, ↓shO_sg, ↓shO_sr, ↓shA_si, ↓shA_sg, ↓shA_sr, ↓pAs_0, ↓pAs_i, ↓pAs_r, stk_n, stk_i, stk_l, stk_r, List.nil_append, List.cons_append, true_and, and_true, true_or, or_true, Nat.zero_add, dp_s, Nat.reduceAdd, le8_0, le8_1, le8_2, le8_3, le8_4, le8_5, le8_6, le8_7, le8_8, Classical.not_not, aT40, aT41, aT42, aT44, aT54, aT58, aT59, rT54, rT58, rT59, reduceIte, Nat.reduceEqDiff, qn_42, qn_44, true_implies, not_true_eq_false, not_false_eq_true, false_implies, e1, le_T, nT (show 16 * j + 16 < 2147483648 by omega), Int.le_refl]
            exact hk1
          | succ m ih =>
            intro i hi2
            have e1 : (16 : Int32) * nI j + 16 = nI (16 * j + 16) := by rw [n_16, pk_mul, nI_add]
            have ih1 := ih (i + 1) (by omega)
            have e2 : lsum s j (i + 1) = lsum s j i + (if lvS s (16 * j + i) then nbS s.V (16 * j + i) else 0) := rfl
            rw [e2] at ih1
            have hv : s.V (16 * j + i) 3 < 256 := (hi.1 ho).vb hi.bt (by omega) 3
            have add : lvS s (16 * j + i) = true → X (d + 3) 159 83 [some (.inr (some r)), some (.inl (nI j)), some (.inl 1), some (.inl (nI (lsum s j i))), some (.inl (nI (16 * j + i)))] [] M1 k := by
              intro hl
              rw [hl, if_pos rfl] at ih1
              refine vc_X 20 _ _ _ _ _ _ _ ?_
              simp only [↓v159_0, ↓v159_1, ↓v159_2, ↓v159_5, ↓v159_6, ↓v159_9, ↓v159_12, ↓v159_13, ↓v159_16, ↓v159_17, ↓v159_19, ↓v159_22, ↓v159_23, ↓v159_26, ↓v159_27, ↓v159_28, ↓v159_31, ↓v159_32, ↓v159_33, ↓v159_34, ↓v159_37, ↓v159_38, ↓v159_41, ↓v159_42, ↓v159_43, ↓v159_44, ↓v159_45, ↓v159_46, ↓v159_48, ↓v159_49, ↓v159_50, ↓v159_52, ↓v159_54, ↓v159_56, ↓v159_57, ↓v159_58, ↓v159_60, ↓v159_61, ↓v159_64, ↓v159_65, ↓v159_67, ↓v159_70, ↓v159_71, ↓v159_74, ↓v159_75, ↓v159_77, ↓v159_80, ↓v159_83, ↓v159_84, ↓v159_85, ↓v159_87, ↓v159_90, ↓v159_93, ↓v159_94, ↓v159_95, ↓v159_98, ↓v159_101, ↓v159_102, ↓qI_c, ↓qL_c, ↓qR_c, ↓pA_o, ↓qC_i, ↓qC_r, ↓oA_s, ↓gI_0, ↓gI_1, ↓gI_2, ↓gI_3, ↓gI_4, ↓gI_5, ↓gI_6, ↓gI_7, ↓gI_8, ↓gI_9, ↓gI_10, ↓gR_0, ↓gR_1, ↓gR_2, ↓gR_3, ↓gR_4, ↓gR_5, ↓gR_6, ↓gR_7, ↓gR_8, ↓gR_9, ↓gR_10, ↓sL_0, ↓sL_1, ↓sL_2, ↓sL_3, ↓sL_4, ↓sL_5, ↓sL_6, ↓sL_7, ↓sL_8, ↓sL_9, ↓sL_10, ↓rrf_si, ↓rrf_sg, ↓shO_si, ↓shO_sg, ↓shO_sr, ↓shA_si, ↓shA_sg, ↓shA_sr, ↓pAs_0, ↓pAs_i, ↓pAs_r, stk_n, stk_i, stk_l, stk_r, List.nil_append, List.cons_append, true_and, and_true, true_or, or_true, Nat.zero_add, dp_s, Nat.reduceAdd, le8_0, le8_1, le8_2, le8_3, le8_4, le8_5, le8_6, le8_7, le8_8, Classical.not_not, aT40, aT41, aT42, aT44, aT54, aT58, aT59, rT54, rT58, rT59, reduceIte, Nat.reduceEqDiff, qn_42, qn_44, true_implies, not_true_eq_false, not_false_eq_true, false_implies, ↓shO_of hs1.1.1]
              refine e131 hrd (show 16 * j + i < 128 by omega) ⟨_, rfl, ?_⟩
              refine vc_X 20 _ _ _ _ _ _ _ ?_
              simp only [↓v159_0, ↓v159_1, ↓v159_2, ↓v159_5, ↓v159_6, ↓v159_9, ↓v159_12, ↓v159_13, ↓v159_16, ↓v159_17, ↓v159_19, ↓v159_22, ↓v159_23, ↓v159_26, ↓v159_27, ↓v159_28, ↓v159_31, ↓v159_32, ↓v159_33, ↓v159_34, ↓v159_37, ↓v159_38, ↓v159_41, ↓v159_42, ↓v159_43, ↓v159_44, ↓v159_45, ↓v159_46, ↓v159_48, ↓v159_49, ↓v159_50, ↓v159_52, ↓v159_54, ↓v159_56, ↓v159_57, ↓v159_58, ↓v159_60, ↓v159_61, ↓v159_64, ↓v159_65, ↓v159_67, ↓v159_70, ↓v159_71, ↓v159_74, ↓v159_75, ↓v159_77, ↓v159_80, ↓v159_83, ↓v159_84, ↓v159_85, ↓v159_87, ↓v159_90, ↓v159_93, ↓v159_94, ↓v159_95, ↓v159_98, ↓v159_101, ↓v159_102, ↓qI_c, ↓qL_c, ↓qR_c, ↓pA_o, ↓qC_i, ↓qC_r, ↓oA_s, ↓gI_0, ↓gI_1, ↓gI_2, ↓gI_3, ↓gI_4, ↓gI_5, ↓gI_6, ↓gI_7, ↓gI_8, ↓gI_9, ↓gI_10, ↓gR_0, ↓gR_1, ↓gR_2, ↓gR_3, ↓gR_4, ↓gR_5, ↓gR_6, ↓gR_7, ↓gR_8, ↓gR_9, ↓gR_10, ↓sL_0, ↓sL_1, ↓sL_2, ↓sL_3, ↓sL_4, ↓sL_5, ↓sL_6, ↓sL_7, ↓sL_8, ↓sL_9, ↓sL_10, ↓rrf_si, ↓rrf_sg, ↓shO_si, ↓shO_sg, ↓shO_sr, ↓shA_si, ↓shA_sg, ↓shA_sr, ↓pAs_0, ↓pAs_i, ↓pAs_r, stk_n, stk_i, stk_l, stk_r, List.nil_append, List.cons_append, true_and, and_true, true_or, or_true, Nat.zero_add, dp_s, Nat.reduceAdd, le8_0, le8_1, le8_2, le8_3, le8_4, le8_5, le8_6, le8_7, le8_8, Classical.not_not, aT40, aT41, aT42, aT44, aT54, aT58, aT59, rT54, rT58, rT59, reduceIte, Nat.reduceEqDiff, qn_42, qn_44, true_implies, not_true_eq_false, not_false_eq_true, false_implies]
              refine e122 (by show s.V (16 * j + i) 3 < 100000; omega) ⟨_, rfl, ?_⟩
              show X _ 159 93 _ [.inl (nI (nbS s.V (16 * j + i))), .inl (nI (lsum s j i))] M1 k
              refine vc_X 20 _ _ _ _ _ _ _ ?_
              simp only [↓v159_0, ↓v159_1, ↓v159_2, ↓v159_5, ↓v159_6, ↓v159_9, ↓v159_12, ↓v159_13, ↓v159_16, ↓v159_17, ↓v159_19, ↓v159_22, ↓v159_23, ↓v159_26, ↓v159_27, ↓v159_28, ↓v159_31, ↓v159_32, ↓v159_33, ↓v159_34, ↓v159_37, ↓v159_38, ↓v159_41, ↓v159_42, ↓v159_43, ↓v159_44, ↓v159_45, ↓v159_46, ↓v159_48, ↓v159_49, ↓v159_50, ↓v159_52, ↓v159_54, ↓v159_56, ↓v159_57, ↓v159_58, ↓v159_60, ↓v159_61, ↓v159_64, ↓v159_65, ↓v159_67, ↓v159_70, ↓v159_71, ↓v159_74, ↓v159_75, ↓v159_77, ↓v159_80, ↓v159_83, ↓v159_84, ↓v159_85, ↓v159_87, ↓v159_90, ↓v159_93, ↓v159_94, ↓v159_95, ↓v159_98, ↓v159_101, ↓v159_102, ↓qI_c, ↓qL_c, ↓qR_c, ↓pA_o, ↓qC_i, ↓qC_r, ↓oA_s, ↓gI_0, ↓gI_1, ↓gI_2, ↓gI_3, ↓gI_4, ↓gI_5, ↓gI_6, ↓gI_7, ↓gI_8, ↓gI_9, ↓gI_10, ↓gR_0, ↓gR_1, ↓gR_2, ↓gR_3, ↓gR_4, ↓gR_5, ↓gR_6, ↓gR_7, ↓gR_8, ↓gR_9, ↓gR_10, ↓sL_0, ↓sL_1, ↓sL_2, ↓sL_3, ↓sL_4, ↓sL_5, ↓sL_6, ↓sL_7, ↓sL_8, ↓sL_9, ↓sL_10, ↓rrf_si, ↓rrf_sg, ↓shO_si, ↓shO_sg, ↓shO_sr, ↓shA_si, ↓shA_sg, ↓shA_sr, ↓pAs_0, ↓pAs_i, ↓pAs_r, stk_n, stk_i, stk_l, stk_r, List.nil_append, List.cons_append, true_and, and_true, true_or, or_true, Nat.zero_add, dp_s, Nat.reduceAdd, le8_0, le8_1, le8_2, le8_3, le8_4, le8_5, le8_6, le8_7, le8_8, Classical.not_not, aT40, aT41, aT42, aT44, aT54, aT58, aT59, rT54, rT58, rT59, reduceIte, Nat.reduceEqDiff, qn_42, qn_44, true_implies, not_true_eq_false, not_false_eq_true, false_implies, nI_add, nI_1]
              exact ih1
            refine vc_X 20 _ _ _ _ _ _ _ ?_
            simp only [↓v159_0, ↓v159_1, ↓v159_2, ↓v159_5, ↓v159_6, ↓v159_9, ↓v159_12, ↓v159_13, ↓v159_16, ↓v159_17, ↓v159_19, ↓v159_22, ↓v159_23, ↓v159_26, ↓v159_27, ↓v159_28, ↓v159_31, ↓v159_32, ↓v159_33, ↓v159_34, ↓v159_37, ↓v159_38, ↓v159_41, ↓v159_42, ↓v159_43, ↓v159_44, ↓v159_45, ↓v159_46, ↓v159_48, ↓v159_49, ↓v159_50, ↓v159_52, ↓v159_54, ↓v159_56, ↓v159_57, ↓v159_58, ↓v159_60, ↓v159_61, ↓v159_64, ↓v159_65, ↓v159_67, ↓v159_70, ↓v159_71, ↓v159_74, ↓v159_75, ↓v159_77, ↓v159_80, ↓v159_83, ↓v159_84, ↓v159_85, ↓v159_87, ↓v159_90, ↓v159_93, ↓v159_94, ↓v159_95, ↓v159_98, ↓v159_101, ↓v159_102, ↓qI_c, ↓qL_c, ↓qR_c, ↓pA_o, ↓qC_i, ↓qC_r, ↓oA_s, ↓gI_0, ↓gI_1, ↓gI_2, ↓gI_3, ↓gI_4, ↓gI_5, ↓gI_6, ↓gI_7, ↓gI_8, ↓gI_9, ↓gI_10, ↓gR_0, ↓gR_1, ↓gR_2, ↓gR_3, ↓gR_4, ↓gR_5, ↓gR_6, ↓gR_7, ↓gR_8, ↓gR_9, ↓gR_10, ↓sL_0, ↓sL_1, ↓sL_2, ↓sL_3, ↓sL_4, ↓sL_5, ↓sL_6, ↓sL_7, ↓sL_8, ↓sL_9, ↓sL_10, ↓rrf_si, ↓rrf_sg, ↓shO_si, ↓shO_sg, ↓shO_sr, ↓shA_si, ↓shA_sg, ↓shA_sr, ↓pAs_0, ↓pAs_i, ↓pAs_r, stk_n, stk_i, stk_l, stk_r, List.nil_append, List.cons_append, true_and, and_true, true_or, or_true, Nat.zero_add, dp_s, Nat.reduceAdd, le8_0, le8_1, le8_2, le8_3, le8_4, le8_5, le8_6, le8_7, le8_8, Classical.not_not, aT40, aT41, aT42, aT44, aT54, aT58, aT59, rT54, rT58, rT59, reduceIte, Nat.reduceEqDiff, qn_42, qn_44, true_implies, not_true_eq_false, not_false_eq_true, false_implies, e1, le_T, nT (show 16 * j + 16 < 2147483648 by omega), nT (show 16 * j + i < 2147483648 by omega), ↓shO_of hs1.1.1]
            refine ⟨fun c => by omega, fun _ => f147 h1 (by omega) ⟨_, rfl, ?_⟩⟩
            cases hf : fst_ (isAt s.ch s.tb (16 * j + i)) 0 48 with
            | none =>
              refine vc_X 20 _ _ _ _ _ _ _ ?_
              simp only [↓v159_0, ↓v159_1, ↓v159_2, ↓v159_5, ↓v159_6, ↓v159_9, ↓v159_12, ↓v159_13, ↓v159_16, ↓v159_17, ↓v159_19, ↓v159_22, ↓v159_23, ↓v159_26, ↓v159_27, ↓v159_28, ↓v159_31, ↓v159_32, ↓v159_33, ↓v159_34, ↓v159_37, ↓v159_38, ↓v159_41, ↓v159_42, ↓v159_43, ↓v159_44, ↓v159_45, ↓v159_46, ↓v159_48, ↓v159_49, ↓v159_50, ↓v159_52, ↓v159_54, ↓v159_56, ↓v159_57, ↓v159_58, ↓v159_60, ↓v159_61, ↓v159_64, ↓v159_65, ↓v159_67, ↓v159_70, ↓v159_71, ↓v159_74, ↓v159_75, ↓v159_77, ↓v159_80, ↓v159_83, ↓v159_84, ↓v159_85, ↓v159_87, ↓v159_90, ↓v159_93, ↓v159_94, ↓v159_95, ↓v159_98, ↓v159_101, ↓v159_102, ↓qI_c, ↓qL_c, ↓qR_c, ↓pA_o, ↓qC_i, ↓qC_r, ↓oA_s, ↓gI_0, ↓gI_1, ↓gI_2, ↓gI_3, ↓gI_4, ↓gI_5, ↓gI_6, ↓gI_7, ↓gI_8, ↓gI_9, ↓gI_10, ↓gR_0, ↓gR_1, ↓gR_2, ↓gR_3, ↓gR_4, ↓gR_5, ↓gR_6, ↓gR_7, ↓gR_8, ↓gR_9, ↓gR_10, ↓sL_0, ↓sL_1, ↓sL_2, ↓sL_3, ↓sL_4, ↓sL_5, ↓sL_6, ↓sL_7, ↓sL_8, ↓sL_9, ↓sL_10, ↓rrf_si, ↓rrf_sg, ↓shO_si, ↓shO_sg, ↓shO_sr, ↓shA_si, ↓shA_sg, ↓shA_sr, ↓pAs_0, ↓pAs_i, ↓pAs_r, stk_n, stk_i, stk_l, stk_r, List.nil_append, List.cons_append, true_and, and_true, true_or, or_true, Nat.zero_add, dp_s, Nat.reduceAdd, le8_0, le8_1, le8_2, le8_3, le8_4, le8_5, le8_6, le8_7, le8_8, Classical.not_not, aT40, aT41, aT42, aT44, aT54, aT58, aT59, rT54, rT58, rT59, reduceIte, Nat.reduceEqDiff, qn_42, qn_44, true_implies, not_true_eq_false, not_false_eq_true, false_implies, oI_none, m11, ↓shO_of hs1.1.1]
              refine f146 h1 (by omega) ⟨_, rfl, ?_⟩
              cases ht : s.tb.any (fun z => z.1 == 16 * j + i) with
              | true =>
                refine vc_X 20 _ _ _ _ _ _ _ ?_
                simp only [↓v159_0, ↓v159_1, ↓v159_2, ↓v159_5, ↓v159_6, ↓v159_9, ↓v159_12, ↓v159_13, ↓v159_16, ↓v159_17, ↓v159_19, ↓v159_22, ↓v159_23, ↓v159_26, ↓v159_27, ↓v159_28, ↓v159_31, ↓v159_32, ↓v159_33, ↓v159_34, ↓v159_37, ↓v159_38, ↓v159_41, ↓v159_42, ↓v159_43, ↓v159_44, ↓v159_45, ↓v159_46, ↓v159_48, ↓v159_49, ↓v159_50, ↓v159_52, ↓v159_54, ↓v159_56, ↓v159_57, ↓v159_58, ↓v159_60, ↓v159_61, ↓v159_64, ↓v159_65, ↓v159_67, ↓v159_70, ↓v159_71, ↓v159_74, ↓v159_75, ↓v159_77, ↓v159_80, ↓v159_83, ↓v159_84, ↓v159_85, ↓v159_87, ↓v159_90, ↓v159_93, ↓v159_94, ↓v159_95, ↓v159_98, ↓v159_101, ↓v159_102, ↓qI_c, ↓qL_c, ↓qR_c, ↓pA_o, ↓qC_i, ↓qC_r, ↓oA_s, ↓gI_0, ↓gI_1, ↓gI_2, ↓gI_3, ↓gI_4, ↓gI_5, ↓gI_6, ↓gI_7, ↓gI_8, ↓gI_9, ↓gI_10, ↓gR_0, ↓gR_1, ↓gR_2, ↓gR_3, ↓gR_4, ↓gR_5, ↓gR_6, ↓gR_7, ↓gR_8, ↓gR_9, ↓gR_10, ↓sL_0, ↓sL_1, ↓sL_2, ↓sL_3, ↓sL_4, ↓sL_5, ↓sL_6, ↓sL_7, ↓sL_8, ↓sL_9, ↓sL_10, ↓rrf_si, ↓rrf_sg, ↓shO_si, ↓shO_sg, ↓shO_sr, ↓shA_si, ↓shA_sg, ↓shA_sr, ↓pAs_0, ↓pAs_i, ↓pAs_r, stk_n, stk_i, stk_l, stk_r, List.nil_append, List.cons_append, true_and, and_true, true_or, or_true, Nat.zero_add, dp_s, Nat.reduceAdd, le8_0, le8_1, le8_2, le8_3, le8_4, le8_5, le8_6, le8_7, le8_8, Classical.not_not, aT40, aT41, aT42, aT44, aT54, aT58, aT59, rT54, rT58, rT59, reduceIte, Nat.reduceEqDiff, qn_42, qn_44, true_implies, not_true_eq_false, not_false_eq_true, false_implies, bI_t, i10]
                exact add (by unfold lvS; rw [ht, Bool.or_true])
              | false =>
                have hl : lvS s (16 * j + i) = false := by unfold lvS; rw [ht, hf]; rfl
                rw [hl] at ih1
                refine vc_X 20 _ _ _ _ _ _ _ ?_
                simp only [↓v159_0, ↓v159_1, ↓v159_2, ↓v159_5, ↓v159_6, ↓v159_9, ↓v159_12, ↓v159_13, ↓v159_16, ↓v159_17, ↓v159_19, ↓v159_22, ↓v159_23, ↓v159_26, ↓v159_27, ↓v159_28, ↓v159_31, ↓v159_32, ↓v159_33, ↓v159_34, ↓v159_37, ↓v159_38, ↓v159_41, ↓v159_42, ↓v159_43, ↓v159_44, ↓v159_45, ↓v159_46, ↓v159_48, ↓v159_49, ↓v159_50, ↓v159_52, ↓v159_54, ↓v159_56, ↓v159_57, ↓v159_58, ↓v159_60, ↓v159_61, ↓v159_64, ↓v159_65, ↓v159_67, ↓v159_70, ↓v159_71, ↓v159_74, ↓v159_75, ↓v159_77, ↓v159_80, ↓v159_83, ↓v159_84, ↓v159_85, ↓v159_87, ↓v159_90, ↓v159_93, ↓v159_94, ↓v159_95, ↓v159_98, ↓v159_101, ↓v159_102, ↓qI_c, ↓qL_c, ↓qR_c, ↓pA_o, ↓qC_i, ↓qC_r, ↓oA_s, ↓gI_0, ↓gI_1, ↓gI_2, ↓gI_3, ↓gI_4, ↓gI_5, ↓gI_6, ↓gI_7, ↓gI_8, ↓gI_9, ↓gI_10, ↓gR_0, ↓gR_1, ↓gR_2, ↓gR_3, ↓gR_4, ↓gR_5, ↓gR_6, ↓gR_7, ↓gR_8, ↓gR_9, ↓gR_10, ↓sL_0, ↓sL_1, ↓sL_2, ↓sL_3, ↓sL_4, ↓sL_5, ↓sL_6, ↓sL_7, ↓sL_8, ↓sL_9, ↓sL_10, ↓rrf_si, ↓rrf_sg, ↓shO_si, ↓shO_sg, ↓shO_sr, ↓shA_si, ↓shA_sg, ↓shA_sr, ↓pAs_0, ↓pAs_i, ↓pAs_r, stk_n, stk_i, stk_l, stk_r, List.nil_append, List.cons_append, true_and, and_true, true_or, or_true, Nat.zero_add, dp_s, Nat.reduceAdd, le8_0, le8_1, le8_2, le8_3, le8_4, le8_5, le8_6, le8_7, le8_8, Classical.not_not, aT40, aT41, aT42, aT44, aT54, aT58, aT59, rT54, rT58, rT59, reduceIte, Nat.reduceEqDiff, qn_42, qn_44, true_implies, not_true_eq_false, not_false_eq_true, false_implies, bI_f, i00, nI_1]
                exact ih1
            | some q =>
              have hq := (fst_spec _ _ _ _ hf).2.2
              have e4 : oI (some q) = nI q := rfl
              refine vc_X 20 _ _ _ _ _ _ _ ?_
              simp only [↓v159_0, ↓v159_1, ↓v159_2, ↓v159_5, ↓v159_6, ↓v159_9, ↓v159_12, ↓v159_13, ↓v159_16, ↓v159_17, ↓v159_19, ↓v159_22, ↓v159_23, ↓v159_26, ↓v159_27, ↓v159_28, ↓v159_31, ↓v159_32, ↓v159_33, ↓v159_34, ↓v159_37, ↓v159_38, ↓v159_41, ↓v159_42, ↓v159_43, ↓v159_44, ↓v159_45, ↓v159_46, ↓v159_48, ↓v159_49, ↓v159_50, ↓v159_52, ↓v159_54, ↓v159_56, ↓v159_57, ↓v159_58, ↓v159_60, ↓v159_61, ↓v159_64, ↓v159_65, ↓v159_67, ↓v159_70, ↓v159_71, ↓v159_74, ↓v159_75, ↓v159_77, ↓v159_80, ↓v159_83, ↓v159_84, ↓v159_85, ↓v159_87, ↓v159_90, ↓v159_93, ↓v159_94, ↓v159_95, ↓v159_98, ↓v159_101, ↓v159_102, ↓qI_c, ↓qL_c, ↓qR_c, ↓pA_o, ↓qC_i, ↓qC_r, ↓oA_s, ↓gI_0, ↓gI_1, ↓gI_2, ↓gI_3, ↓gI_4, ↓gI_5, ↓gI_6, ↓gI_7, ↓gI_8, ↓gI_9, ↓gI_10, ↓gR_0, ↓gR_1, ↓gR_2, ↓gR_3, ↓gR_4, ↓gR_5, ↓gR_6, ↓gR_7, ↓gR_8, ↓gR_9, ↓gR_10, ↓sL_0, ↓sL_1, ↓sL_2, ↓sL_3, ↓sL_4, ↓sL_5, ↓sL_6, ↓sL_7, ↓sL_8, ↓sL_9, ↓sL_10, ↓rrf_si, ↓rrf_sg, ↓shO_si, ↓shO_sg, ↓shO_sr, ↓shA_si, ↓shA_sg, ↓shA_sr, ↓pAs_0, ↓pAs_i, ↓pAs_r, stk_n, stk_i, stk_l, stk_r, List.nil_append, List.cons_append, true_and, and_true, true_or, or_true, Nat.zero_add, dp_s, Nat.reduceAdd, le8_0, le8_1, le8_2, le8_3, le8_4, le8_5, le8_6, le8_7, le8_8, Classical.not_not, aT40, aT41, aT42, aT44, aT54, aT58, aT59, rT54, rT58, rT59, reduceIte, Nat.reduceEqDiff, qn_42, qn_44, true_implies, not_true_eq_false, not_false_eq_true, false_implies, e4, nI_nm (show q < 2147483648 by omega) (show ((-1 : Int32)).toInt < 0 by decide)]
              exact add (by unfold lvS; rw [hf]; rfl)
        have e0 : (16 : Int32) * nI j = nI (16 * j + 0) := by rw [n_16, pk_mul]; rfl
        refine vc_X 20 _ _ _ _ _ _ _ ?_
        simp only [↓v159_0, ↓v159_1, ↓v159_2, ↓v159_5, ↓v159_6, ↓v159_9, ↓v159_12, ↓v159_13, ↓v159_16, ↓v159_17, ↓v159_19, ↓v159_22, ↓v159_23, ↓v159_26, ↓v159_27, ↓v159_28, ↓v159_31, ↓v159_32, ↓v159_33, ↓v159_34, ↓v159_37, ↓v159_38, ↓v159_41, ↓v159_42, ↓v159_43, ↓v159_44, ↓v159_45, ↓v159_46, ↓v159_48, ↓v159_49, ↓v159_50, ↓v159_52, ↓v159_54, ↓v159_56, ↓v159_57, ↓v159_58, ↓v159_60, ↓v159_61, ↓v159_64, ↓v159_65, ↓v159_67, ↓v159_70, ↓v159_71, ↓v159_74, ↓v159_75, ↓v159_77, ↓v159_80, ↓v159_83, ↓v159_84, ↓v159_85, ↓v159_87, ↓v159_90, ↓v159_93, ↓v159_94, ↓v159_95, ↓v159_98, ↓v159_101, ↓v159_102, ↓qI_c, ↓qL_c, ↓qR_c, ↓pA_o, ↓qC_i, ↓qC_r, ↓oA_s, ↓gI_0, ↓gI_1, ↓gI_2, ↓gI_3, ↓gI_4, ↓gI_5, ↓gI_6, ↓gI_7, ↓gI_8, ↓gI_9, ↓gI_10, ↓gR_0, ↓gR_1, ↓gR_2, ↓gR_3, ↓gR_4, ↓gR_5, ↓gR_6, ↓gR_7, ↓gR_8, ↓gR_9, ↓gR_10, ↓sL_0, ↓sL_1, ↓sL_2, ↓sL_3, ↓sL_4, ↓sL_5, ↓sL_6, ↓sL_7, ↓sL_8, ↓sL_9, ↓sL_10, ↓rrf_si, ↓rrf_sg, ↓shO_si, ↓shO_sg, ↓shO_sr, ↓shA_si, ↓shA_sg, ↓shA_sr, ↓pAs_0, ↓pAs_i, ↓pAs_r, stk_n, stk_i, stk_l, stk_r, List.nil_append, List.cons_append, true_and, and_true, true_or, or_true, Nat.zero_add, dp_s, Nat.reduceAdd, le8_0, le8_1, le8_2, le8_3, le8_4, le8_5, le8_6, le8_7, le8_8, Classical.not_not, aT40, aT41, aT42, aT44, aT54, aT58, aT59, rT54, rT58, rT59, reduceIte, Nat.reduceEqDiff, qn_42, qn_44, true_implies, not_true_eq_false, not_false_eq_true, false_implies, i10, e0]
        exact lop 16 0 (by omega)
      · rw [if_neg y0, if_neg y1] at hk1
        exact hk1
theorem d157 {d c : Nat} {M : Mm} {k : mQ} {r : Nat} {s : Ms} {x : Int32} (h : RP M r s) (hi : IvS c s) (hc : c ≤ 512) (hk : ∀ M', RP M' r s → Rr r M M' → k (some (.inl (mAbo x s).1)) M') : XC (d + 3) 157 [.inr (some r), .inl x] M k := by
  obtain ⟨h1, o1⟩ := h.th
  have hk1 := hk _ h1 (o1.rr (fun _ q => q.elim))
  clear hk
  generalize hM1 : M.si r 0 0 = M1 at h1 o1 hk1
  have hs := h.1
  have hs1 := h1.1
  obtain ⟨⟨f2, f5, f9, f10, f11, f12, f13⟩, f14, f15, f27, f28, f34⟩ := h1.2.1
  have hl : s.ws.length ≤ 120 := hi.2.2.1.1
  have E : ∀ n : Int32, x.toInt = n.toInt → x = n := fun n c => (eq_T x n).mpr c
  have N : ∀ n : Int32, ¬ x.toInt = n.toInt → x ≠ n := fun n c q => c ((eq_T x n).mp q)
  unfold mAbo at hk1
  refine xc ?_
  show X (d + 2) 157 0 [some (.inr (some r)), some (.inl x), none, none] [] M k
  have lop : k (some (.inl (nI (cnt (rdM s.ws) s.ws.length)))) M1 → ∀ m i, i + m = s.ws.length → X (d + 2) 157 84 [some (.inr (some r)), some (.inl x), some (.inl (nI (cnt (rdM s.ws) i))), some (.inl (nI i))] [] M1 k := by
    intro hk2 m
    induction m with
    | zero =>
      intro i him
      have e : i = s.ws.length := by omega
      subst e
      refine vc_X 20 _ _ _ _ _ _ _ ?_
      simp only [↓v157_0, ↓v157_1, ↓v157_2, ↓v157_5, ↓v157_6, ↓v157_7, ↓v157_8, ↓v157_72, ↓v157_73, ↓v157_76, ↓v157_77, ↓v157_78, ↓v157_81, ↓v157_82, ↓v157_83, ↓v157_84, ↓v157_85, ↓v157_86, ↓v157_89, ↓v157_92, ↓v157_93, ↓v157_94, ↓v157_95, ↓v157_98, ↓v157_101, ↓v157_102, ↓v157_105, ↓v157_106, ↓v157_107, ↓v157_108, ↓v157_111, ↓v157_114, ↓v157_115, ↓v157_116, ↓v157_117, ↓v157_120, ↓v157_123, ↓v157_124, ↓v157_127, ↓v157_128, ↓v157_131, ↓v157_132, ↓v157_133, ↓v157_136, ↓v157_139, ↓v157_140, ↓v157_143, ↓v157_144, ↓v157_147, ↓v157_148, ↓v157_149, ↓v157_152, ↓v157_153, ↓v157_154, ↓v157_157, ↓v157_160, ↓v157_161, ↓v157_164, ↓v157_165, ↓v157_168, ↓v157_169, ↓v157_170, ↓v157_173, ↓v157_175, ↓v157_176, ↓v157_179, ↓v157_180, ↓v157_181, ↓v157_182, ↓v157_183, ↓v157_184, ↓v157_185, ↓v157_188, ↓v157_191, ↓v157_192, ↓v157_195, ↓v157_196, ↓v157_199, ↓v157_200, ↓v157_201, ↓v157_204, ↓v157_207, ↓v157_208, ↓v157_211, ↓v157_212, ↓v157_215, ↓v157_216, ↓v157_217, ↓v157_220, ↓v157_223, ↓v157_224, ↓v157_227, ↓v157_228, ↓v157_231, ↓v157_232, ↓v157_233, ↓v157_236, ↓v157_239, ↓v157_240, ↓v157_243, ↓v157_244, ↓v157_245, ↓v157_246, ↓qI_c, ↓qL_c, ↓qR_c, ↓pA_o, ↓qC_i, ↓qC_r, ↓oA_s, ↓gI_0, ↓gI_1, ↓gI_2, ↓gI_3, ↓gI_4, ↓gI_5, ↓gI_6, ↓gI_7, ↓gI_8, ↓gI_9, ↓gI_10, ↓gR_0, ↓gR_1, ↓gR_2, ↓gR_3, ↓gR_4, ↓gR_5, ↓gR_6, ↓gR_7, ↓gR_8, ↓gR_9, ↓gR_10, ↓sL_0, ↓sL_1, ↓sL_2, ↓sL_3, ↓sL_4, ↓sL_5, ↓sL_6, ↓sL_7, ↓sL_8, ↓sL_9, ↓sL_10, ↓rrf_si, ↓rrf_sg, ↓shO_si, ↓shO_sg, ↓shO_sr, ↓shA_si, ↓shA_sg, ↓shA_sr, ↓pAs_0, ↓pAs_i, ↓pAs_r, stk_n, stk_i, stk_l, stk_r, List.nil_append, List.cons_append, true_and, and_true, true_or, or_true, Nat.zero_add, dp_s, Nat.reduceAdd, le8_0, le8_1, le8_2, le8_3, le8_4, le8_5, le8_6, le8_7, le8_8, Classical.not_not, aT40, aT41, aT42, aT44, aT54, aT58, aT59, rT54, rT58, rT59, reduceIte, Nat.reduceEqDiff, qn_42, qn_44, true_implies, not_true_eq_false, not_false_eq_true, false_implies, le_T, nT (show s.ws.length < 2147483648 by omega), ↓shO_of hs1.1.1, f14, Int.le_refl]
      exact hk2
    | succ m ih =>
      intro i him
      have hx : s.ws[i]? = some s.ws[i] := List.getElem?_eq_getElem (by omega)
      have ih1 := ih (i + 1) (by omega)
      have e1 : cnt (rdM s.ws) (i + 1) = cnt (rdM s.ws) i + (if rdM s.ws i then 1 else 0) := rfl
      rw [e1] at ih1
      have hr : rdM s.ws i = (lfM s.ws s.ws[i] == 0) := by unfold rdM; rw [hx]
      have hll : lfM s.ws s.ws[i] ≤ s.ws.length := by unfold lfM; exact List.length_filter_le _ _
      have z0 : ∀ n, nI n + 0 = nI n := fun n => by rw [n_0, nI_add]; rfl
      have tz : (nI (lfM s.ws s.ws[i]) = 0) ↔ lfM s.ws s.ws[i] = 0 := by rw [n_0]; exact nI_eq (by omega) (by omega)
      refine vc_X 20 _ _ _ _ _ _ _ ?_
      simp only [↓v157_0, ↓v157_1, ↓v157_2, ↓v157_5, ↓v157_6, ↓v157_7, ↓v157_8, ↓v157_72, ↓v157_73, ↓v157_76, ↓v157_77, ↓v157_78, ↓v157_81, ↓v157_82, ↓v157_83, ↓v157_84, ↓v157_85, ↓v157_86, ↓v157_89, ↓v157_92, ↓v157_93, ↓v157_94, ↓v157_95, ↓v157_98, ↓v157_101, ↓v157_102, ↓v157_105, ↓v157_106, ↓v157_107, ↓v157_108, ↓v157_111, ↓v157_114, ↓v157_115, ↓v157_116, ↓v157_117, ↓v157_120, ↓v157_123, ↓v157_124, ↓v157_127, ↓v157_128, ↓v157_131, ↓v157_132, ↓v157_133, ↓v157_136, ↓v157_139, ↓v157_140, ↓v157_143, ↓v157_144, ↓v157_147, ↓v157_148, ↓v157_149, ↓v157_152, ↓v157_153, ↓v157_154, ↓v157_157, ↓v157_160, ↓v157_161, ↓v157_164, ↓v157_165, ↓v157_168, ↓v157_169, ↓v157_170, ↓v157_173, ↓v157_175, ↓v157_176, ↓v157_179, ↓v157_180, ↓v157_181, ↓v157_182, ↓v157_183, ↓v157_184, ↓v157_185, ↓v157_188, ↓v157_191, ↓v157_192, ↓v157_195, ↓v157_196, ↓v157_199, ↓v157_200, ↓v157_201, ↓v157_204, ↓v157_207, ↓v157_208, ↓v157_211, ↓v157_212, ↓v157_215, ↓v157_216, ↓v157_217, ↓v157_220, ↓v157_223, ↓v157_224, ↓v157_227, ↓v157_228, ↓v157_231, ↓v157_232, ↓v157_233, ↓v157_236, ↓v157_239, ↓v157_240, ↓v157_243, ↓v157_244, ↓v157_245, ↓v157_246, ↓qI_c, ↓qL_c, ↓qR_c, ↓pA_o, ↓qC_i, ↓qC_r, ↓oA_s, ↓gI_0, ↓gI_1, ↓gI_2, ↓gI_3, ↓gI_4, ↓gI_5, ↓gI_6, ↓gI_7, ↓gI_8, ↓gI_9, ↓gI_10, ↓gR_0, ↓gR_1, ↓gR_2, ↓gR_3, ↓gR_4, ↓gR_5, ↓gR_6, ↓gR_7, ↓gR_8, ↓gR_9, ↓gR_10, ↓sL_0, ↓sL_1, ↓sL_2, ↓sL_3, ↓sL_4, ↓sL_5, ↓sL_6, ↓sL_7, ↓sL_8, ↓sL_9, ↓sL_10, ↓rrf_si, ↓rrf_sg, ↓shO_si, ↓shO_sg, ↓shO_sr, ↓shA_si, ↓shA_sg, ↓shA_sr, ↓pAs_0, ↓pAs_i, ↓pAs_r, stk_n, stk_i, stk_l, stk_r, List.nil_append, List.cons_append, true_and, and_true, true_or, or_true, Nat.zero_add, dp_s, Nat.reduceAdd, le8_0, le8_1, le8_2, le8_3, le8_4, le8_5, le8_6, le8_7, le8_8, Classical.not_not, aT40, aT41, aT42, aT44, aT54, aT58, aT59, rT54, rT58, rT59, reduceIte, Nat.reduceEqDiff, qn_42, qn_44, true_implies, not_true_eq_false, not_false_eq_true, false_implies, le_T, nT (show i < 2147483648 by omega), nT (show s.ws.length < 2147483648 by omega), ↓shO_of hs1.1.1, f14]
      refine ⟨fun c => by omega, fun _ => e151 hs1 h1.2.2.2.1.2.2.2 f14 (by omega) hi.nb hx ⟨_, rfl, ?_⟩⟩
      refine vc_X 20 _ _ _ _ _ _ _ ?_
      simp only [↓v157_0, ↓v157_1, ↓v157_2, ↓v157_5, ↓v157_6, ↓v157_7, ↓v157_8, ↓v157_72, ↓v157_73, ↓v157_76, ↓v157_77, ↓v157_78, ↓v157_81, ↓v157_82, ↓v157_83, ↓v157_84, ↓v157_85, ↓v157_86, ↓v157_89, ↓v157_92, ↓v157_93, ↓v157_94, ↓v157_95, ↓v157_98, ↓v157_101, ↓v157_102, ↓v157_105, ↓v157_106, ↓v157_107, ↓v157_108, ↓v157_111, ↓v157_114, ↓v157_115, ↓v157_116, ↓v157_117, ↓v157_120, ↓v157_123, ↓v157_124, ↓v157_127, ↓v157_128, ↓v157_131, ↓v157_132, ↓v157_133, ↓v157_136, ↓v157_139, ↓v157_140, ↓v157_143, ↓v157_144, ↓v157_147, ↓v157_148, ↓v157_149, ↓v157_152, ↓v157_153, ↓v157_154, ↓v157_157, ↓v157_160, ↓v157_161, ↓v157_164, ↓v157_165, ↓v157_168, ↓v157_169, ↓v157_170, ↓v157_173, ↓v157_175, ↓v157_176, ↓v157_179, ↓v157_180, ↓v157_181, ↓v157_182, ↓v157_183, ↓v157_184, ↓v157_185, ↓v157_188, ↓v157_191, ↓v157_192, ↓v157_195, ↓v157_196, ↓v157_199, ↓v157_200, ↓v157_201, ↓v157_204, ↓v157_207, ↓v157_208, ↓v157_211, ↓v157_212, ↓v157_215, ↓v157_216, ↓v157_217, ↓v157_220, ↓v157_223, ↓v157_224, ↓v157_227, ↓v157_228, ↓v157_231, ↓v157_232, ↓v157_233, ↓v157_236, ↓v157_239, ↓v157_240, ↓v157_243, ↓v157_244, ↓v157_245, ↓v157_246, ↓qI_c, ↓qL_c, ↓qR_c, ↓pA_o, ↓qC_i, ↓qC_r, ↓oA_s, ↓gI_0, ↓gI_1, ↓gI_2, ↓gI_3, ↓gI_4, ↓gI_5, ↓gI_6, ↓gI_7, ↓gI_8, ↓gI_9, ↓gI_10, ↓gR_0, ↓gR_1, ↓gR_2, ↓gR_3, ↓gR_4, ↓gR_5, ↓gR_6, ↓gR_7, ↓gR_8, ↓gR_9, ↓gR_10, ↓sL_0, ↓sL_1, ↓sL_2, ↓sL_3, ↓sL_4, ↓sL_5, ↓sL_6, ↓sL_7, ↓sL_8, ↓sL_9, ↓sL_10, ↓rrf_si, ↓rrf_sg, ↓shO_si, ↓shO_sg, ↓shO_sr, ↓shA_si, ↓shA_sg, ↓shA_sr, ↓pAs_0, ↓pAs_i, ↓pAs_r, stk_n, stk_i, stk_l, stk_r, List.nil_append, List.cons_append, true_and, and_true, true_or, or_true, Nat.zero_add, dp_s, Nat.reduceAdd, le8_0, le8_1, le8_2, le8_3, le8_4, le8_5, le8_6, le8_7, le8_8, Classical.not_not, aT40, aT41, aT42, aT44, aT54, aT58, aT59, rT54, rT58, rT59, reduceIte, Nat.reduceEqDiff, qn_42, qn_44, true_implies, not_true_eq_false, not_false_eq_true, false_implies, tz, z0, nI_1]
      refine ⟨fun c => ?_, fun c => ?_⟩
      · rw [show rdM s.ws i = false by rw [hr]; simpa using c] at ih1
        exact ih1
      · rw [show rdM s.ws i = true by rw [hr, c]; rfl] at ih1
        exact ih1
  have seven : k (some (.inl (nI s.R.2.1))) M1 → XC (d + 2) 149 [.inr (some r)] M1 (fun r_1 M => ∃ x_1, r_1 = some (.inl x_1) ∧ X (d + 2) 157 179 [some (.inr (some r)), some (.inl x), some (.inl 0), none] [.inl x_1, .inl 18, .inr (.inr (some (r + 3)))] M k) := by
    intro hk2
    have sa := slot_at h1.2.2.1.2.2.1
    have sl := slL_le s.s0 s.s1
    have e1 : M1.it (r + 3) (18 * slL s.s0 s.s1 + 1) = nI s.R.2.1 := sa.2.1
    have e2 : (18 : Int32) * nI (slL s.s0 s.s1) + 1 = nI (18 * slL s.s0 s.s1 + 1) := by rw [n_18, pk_mul, n_1, nI_add]
    refine f149 h1 hi hc ⟨_, rfl, ?_⟩
    refine vc_X 20 _ _ _ _ _ _ _ ?_
    simp only [↓v157_0, ↓v157_1, ↓v157_2, ↓v157_5, ↓v157_6, ↓v157_7, ↓v157_8, ↓v157_72, ↓v157_73, ↓v157_76, ↓v157_77, ↓v157_78, ↓v157_81, ↓v157_82, ↓v157_83, ↓v157_84, ↓v157_85, ↓v157_86, ↓v157_89, ↓v157_92, ↓v157_93, ↓v157_94, ↓v157_95, ↓v157_98, ↓v157_101, ↓v157_102, ↓v157_105, ↓v157_106, ↓v157_107, ↓v157_108, ↓v157_111, ↓v157_114, ↓v157_115, ↓v157_116, ↓v157_117, ↓v157_120, ↓v157_123, ↓v157_124, ↓v157_127, ↓v157_128, ↓v157_131, ↓v157_132, ↓v157_133, ↓v157_136, ↓v157_139, ↓v157_140, ↓v157_143, ↓v157_144, ↓v157_147, ↓v157_148, ↓v157_149, ↓v157_152, ↓v157_153, ↓v157_154, ↓v157_157, ↓v157_160, ↓v157_161, ↓v157_164, ↓v157_165, ↓v157_168, ↓v157_169, ↓v157_170, ↓v157_173, ↓v157_175, ↓v157_176, ↓v157_179, ↓v157_180, ↓v157_181, ↓v157_182, ↓v157_183, ↓v157_184, ↓v157_185, ↓v157_188, ↓v157_191, ↓v157_192, ↓v157_195, ↓v157_196, ↓v157_199, ↓v157_200, ↓v157_201, ↓v157_204, ↓v157_207, ↓v157_208, ↓v157_211, ↓v157_212, ↓v157_215, ↓v157_216, ↓v157_217, ↓v157_220, ↓v157_223, ↓v157_224, ↓v157_227, ↓v157_228, ↓v157_231, ↓v157_232, ↓v157_233, ↓v157_236, ↓v157_239, ↓v157_240, ↓v157_243, ↓v157_244, ↓v157_245, ↓v157_246, ↓qI_c, ↓qL_c, ↓qR_c, ↓pA_o, ↓qC_i, ↓qC_r, ↓oA_s, ↓gI_0, ↓gI_1, ↓gI_2, ↓gI_3, ↓gI_4, ↓gI_5, ↓gI_6, ↓gI_7, ↓gI_8, ↓gI_9, ↓gI_10, ↓gR_0, ↓gR_1, ↓gR_2, ↓gR_3, ↓gR_4, ↓gR_5, ↓gR_6, ↓gR_7, ↓gR_8, ↓gR_9, ↓gR_10, ↓sL_0, ↓sL_1, ↓sL_2, ↓sL_3, ↓sL_4, ↓sL_5, ↓sL_6, ↓sL_7, ↓sL_8, ↓sL_9, ↓sL_10, ↓rrf_si, ↓rrf_sg, ↓shO_si, ↓shO_sg, ↓shO_sr, ↓shA_si, ↓shA_sg, ↓shA_sr, ↓pAs_0, ↓pAs_i, ↓pAs_r, stk_n, stk_i, stk_l, stk_r, List.nil_append, List.cons_append, true_and, and_true, true_or, or_true, Nat.zero_add, dp_s, Nat.reduceAdd, le8_0, le8_1, le8_2, le8_3, le8_4, le8_5, le8_6, le8_7, le8_8, Classical.not_not, aT40, aT41, aT42, aT44, aT54, aT58, aT59, rT54, rT58, rT59, reduceIte, Nat.reduceEqDiff, qn_42, qn_44, true_implies, not_true_eq_false, not_false_eq_true, false_implies, e2, ↓shA_of hs1.2.2.2.1.2.2.1, nC (show 18 * slL s.s0 s.s1 + 1 < 2147483648 by omega), e1]
    exact ⟨inB_n (by omega) (by omega), hk2⟩
  cases ho : s.off with
  | true =>
    rw [ho, bI_t] at f5
    have hw0 : s.ws = [] := (hi.2.1 ho).1
    rw [ho] at hk1
    have r4 := hs.1.2.2.2.1
    refine vc_X 20 _ _ _ _ _ _ _ ?_
    simp only [↓v157_0, ↓v157_1, ↓v157_2, ↓v157_5, ↓v157_6, ↓v157_7, ↓v157_8, ↓v157_72, ↓v157_73, ↓v157_76, ↓v157_77, ↓v157_78, ↓v157_81, ↓v157_82, ↓v157_83, ↓v157_84, ↓v157_85, ↓v157_86, ↓v157_89, ↓v157_92, ↓v157_93, ↓v157_94, ↓v157_95, ↓v157_98, ↓v157_101, ↓v157_102, ↓v157_105, ↓v157_106, ↓v157_107, ↓v157_108, ↓v157_111, ↓v157_114, ↓v157_115, ↓v157_116, ↓v157_117, ↓v157_120, ↓v157_123, ↓v157_124, ↓v157_127, ↓v157_128, ↓v157_131, ↓v157_132, ↓v157_133, ↓v157_136, ↓v157_139, ↓v157_140, ↓v157_143, ↓v157_144, ↓v157_147, ↓v157_148, ↓v157_149, ↓v157_152, ↓v157_153, ↓v157_154, ↓v157_157, ↓v157_160, ↓v157_161, ↓v157_164, ↓v157_165, ↓v157_168, ↓v157_169, ↓v157_170, ↓v157_173, ↓v157_175, ↓v157_176, ↓v157_179, ↓v157_180, ↓v157_181, ↓v157_182, ↓v157_183, ↓v157_184, ↓v157_185, ↓v157_188, ↓v157_191, ↓v157_192, ↓v157_195, ↓v157_196, ↓v157_199, ↓v157_200, ↓v157_201, ↓v157_204, ↓v157_207, ↓v157_208, ↓v157_211, ↓v157_212, ↓v157_215, ↓v157_216, ↓v157_217, ↓v157_220, ↓v157_223, ↓v157_224, ↓v157_227, ↓v157_228, ↓v157_231, ↓v157_232, ↓v157_233, ↓v157_236, ↓v157_239, ↓v157_240, ↓v157_243, ↓v157_244, ↓v157_245, ↓v157_246, ↓qI_c, ↓qL_c, ↓qR_c, ↓pA_o, ↓qC_i, ↓qC_r, ↓oA_s, ↓gI_0, ↓gI_1, ↓gI_2, ↓gI_3, ↓gI_4, ↓gI_5, ↓gI_6, ↓gI_7, ↓gI_8, ↓gI_9, ↓gI_10, ↓gR_0, ↓gR_1, ↓gR_2, ↓gR_3, ↓gR_4, ↓gR_5, ↓gR_6, ↓gR_7, ↓gR_8, ↓gR_9, ↓gR_10, ↓sL_0, ↓sL_1, ↓sL_2, ↓sL_3, ↓sL_4, ↓sL_5, ↓sL_6, ↓sL_7, ↓sL_8, ↓sL_9, ↓sL_10, ↓rrf_si, ↓rrf_sg, ↓shO_si, ↓shO_sg, ↓shO_sr, ↓shA_si, ↓shA_sg, ↓shA_sr, ↓pAs_0, ↓pAs_i, ↓pAs_r, stk_n, stk_i, stk_l, stk_r, List.nil_append, List.cons_append, true_and, and_true, true_or, or_true, Nat.zero_add, dp_s, Nat.reduceAdd, le8_0, le8_1, le8_2, le8_3, le8_4, le8_5, le8_6, le8_7, le8_8, Classical.not_not, aT40, aT41, aT42, aT44, aT54, aT58, aT59, rT54, rT58, rT59, reduceIte, Nat.reduceEqDiff, qn_42, qn_44, true_implies, not_true_eq_false, not_false_eq_true, false_implies, hM1, ↓shO_of hs.1.1, f13, f14, f28, f5, i10, ↓rrf_of r4]
    refine ⟨fun c => ?_, fun c0 => ⟨fun c => ?_, fun c1 => ⟨fun c => ?_, fun c2 => ⟨fun c => ?_, fun c3 => ⟨fun c => ?_, fun c4 => ⟨fun c => ?_, fun c5 => ⟨fun c => ?_, fun c6 => ⟨fun c => ?_, fun c7 => ⟨fun c => ?_, fun c8 => ⟨fun c => ?_, fun c9 => ⟨fun c => ?_, fun c10 => ⟨fun c => ?_, fun c11 => ?_⟩⟩⟩⟩⟩⟩⟩⟩⟩⟩⟩⟩
    · rw [E 0 c] at hk1; exact hk1
    · rw [E 1 c] at hk1; rw [hw0]; exact hk1
    · have lop1 := lop (by rw [hw0]; rw [E 2 c] at hk1; exact hk1) s.ws.length 0 (by omega)
      exact lop1
    · refine vc_X 20 _ _ _ _ _ _ _ ?_
      simp only [↓v157_0, ↓v157_1, ↓v157_2, ↓v157_5, ↓v157_6, ↓v157_7, ↓v157_8, ↓v157_72, ↓v157_73, ↓v157_76, ↓v157_77, ↓v157_78, ↓v157_81, ↓v157_82, ↓v157_83, ↓v157_84, ↓v157_85, ↓v157_86, ↓v157_89, ↓v157_92, ↓v157_93, ↓v157_94, ↓v157_95, ↓v157_98, ↓v157_101, ↓v157_102, ↓v157_105, ↓v157_106, ↓v157_107, ↓v157_108, ↓v157_111, ↓v157_114, ↓v157_115, ↓v157_116, ↓v157_117, ↓v157_120, ↓v157_123, ↓v157_124, ↓v157_127, ↓v157_128, ↓v157_131, ↓v157_132, ↓v157_133, ↓v157_136, ↓v157_139, ↓v157_140, ↓v157_143, ↓v157_144, ↓v157_147, ↓v157_148, ↓v157_149, ↓v157_152, ↓v157_153, ↓v157_154, ↓v157_157, ↓v157_160, ↓v157_161, ↓v157_164, ↓v157_165, ↓v157_168, ↓v157_169, ↓v157_170, ↓v157_173, ↓v157_175, ↓v157_176, ↓v157_179, ↓v157_180, ↓v157_181, ↓v157_182, ↓v157_183, ↓v157_184, ↓v157_185, ↓v157_188, ↓v157_191, ↓v157_192, ↓v157_195, ↓v157_196, ↓v157_199, ↓v157_200, ↓v157_201, ↓v157_204, ↓v157_207, ↓v157_208, ↓v157_211, ↓v157_212, ↓v157_215, ↓v157_216, ↓v157_217, ↓v157_220, ↓v157_223, ↓v157_224, ↓v157_227, ↓v157_228, ↓v157_231, ↓v157_232, ↓v157_233, ↓v157_236, ↓v157_239, ↓v157_240, ↓v157_243, ↓v157_244, ↓v157_245, ↓v157_246, ↓qI_c, ↓qL_c, ↓qR_c, ↓pA_o, ↓qC_i, ↓qC_r, ↓oA_s, ↓gI_0, ↓gI_1, ↓gI_2, ↓gI_3, ↓gI_4, ↓gI_5, ↓gI_6, ↓gI_7, ↓gI_8, ↓gI_9, ↓gI_10, ↓gR_0, ↓gR_1, ↓gR_2, ↓gR_3, ↓gR_4, ↓gR_5, ↓gR_6, ↓gR_7, ↓gR_8, ↓gR_9, ↓gR_10, ↓sL_0, ↓sL_1, ↓sL_2, ↓sL_3, ↓sL_4, ↓sL_5, ↓sL_6, ↓sL_7, ↓sL_8, ↓sL_9, ↓sL_10, ↓rrf_si, ↓rrf_sg, ↓shO_si, ↓shO_sg, ↓shO_sr, ↓shA_si, ↓shA_sg, ↓shA_sr, ↓pAs_0, ↓pAs_i, ↓pAs_r, stk_n, stk_i, stk_l, stk_r, List.nil_append, List.cons_append, true_and, and_true, true_or, or_true, Nat.zero_add, dp_s, Nat.reduceAdd, le8_0, le8_1, le8_2, le8_3, le8_4, le8_5, le8_6, le8_7, le8_8, Classical.not_not, aT40, aT41, aT42, aT44, aT54, aT58, aT59, rT54, rT58, rT59, reduceIte, Nat.reduceEqDiff, qn_42, qn_44, true_implies, not_true_eq_false, not_false_eq_true, false_implies]
      rw [E 3 c] at hk1
      exact hk1
    · rw [E 4 c] at hk1; exact hk1
    · rw [E 5 c] at hk1; exact hk1
    · rw [E 6 c] at hk1; exact hk1
    · refine seven ?_
      rw [E 7 c] at hk1
      exact hk1
    · rw [E 8 c] at hk1; exact hk1
    · refine vc_X 20 _ _ _ _ _ _ _ ?_
      simp only [↓v157_0, ↓v157_1, ↓v157_2, ↓v157_5, ↓v157_6, ↓v157_7, ↓v157_8, ↓v157_72, ↓v157_73, ↓v157_76, ↓v157_77, ↓v157_78, ↓v157_81, ↓v157_82, ↓v157_83, ↓v157_84, ↓v157_85, ↓v157_86, ↓v157_89, ↓v157_92, ↓v157_93, ↓v157_94, ↓v157_95, ↓v157_98, ↓v157_101, ↓v157_102, ↓v157_105, ↓v157_106, ↓v157_107, ↓v157_108, ↓v157_111, ↓v157_114, ↓v157_115, ↓v157_116, ↓v157_117, ↓v157_120, ↓v157_123, ↓v157_124, ↓v157_127, ↓v157_128, ↓v157_131, ↓v157_132, ↓v157_133, ↓v157_136, ↓v157_139, ↓v157_140, ↓v157_143, ↓v157_144, ↓v157_147, ↓v157_148, ↓v157_149, ↓v157_152, ↓v157_153, ↓v157_154, ↓v157_157, ↓v157_160, ↓v157_161, ↓v157_164, ↓v157_165, ↓v157_168, ↓v157_169, ↓v157_170, ↓v157_173, ↓v157_175, ↓v157_176, ↓v157_179, ↓v157_180, ↓v157_181, ↓v157_182, ↓v157_183, ↓v157_184, ↓v157_185, ↓v157_188, ↓v157_191, ↓v157_192, ↓v157_195, ↓v157_196, ↓v157_199, ↓v157_200, ↓v157_201, ↓v157_204, ↓v157_207, ↓v157_208, ↓v157_211, ↓v157_212, ↓v157_215, ↓v157_216, ↓v157_217, ↓v157_220, ↓v157_223, ↓v157_224, ↓v157_227, ↓v157_228, ↓v157_231, ↓v157_232, ↓v157_233, ↓v157_236, ↓v157_239, ↓v157_240, ↓v157_243, ↓v157_244, ↓v157_245, ↓v157_246, ↓qI_c, ↓qL_c, ↓qR_c, ↓pA_o, ↓qC_i, ↓qC_r, ↓oA_s, ↓gI_0, ↓gI_1, ↓gI_2, ↓gI_3, ↓gI_4, ↓gI_5, ↓gI_6, ↓gI_7, ↓gI_8, ↓gI_9, ↓gI_10, ↓gR_0, ↓gR_1, ↓gR_2, ↓gR_3, ↓gR_4, ↓gR_5, ↓gR_6, ↓gR_7, ↓gR_8, ↓gR_9, ↓gR_10, ↓sL_0, ↓sL_1, ↓sL_2, ↓sL_3, ↓sL_4, ↓sL_5, ↓sL_6, ↓sL_7, ↓sL_8, ↓sL_9, ↓sL_10, ↓rrf_si, ↓rrf_sg, ↓shO_si, ↓shO_sg, ↓shO_sr, ↓shA_si, ↓shA_sg, ↓shA_sr, ↓pAs_0, ↓pAs_i, ↓pAs_r, stk_n, stk_i, stk_l, stk_r, List.nil_append, List.cons_append, true_and, and_true, true_or, or_true, Nat.zero_add, dp_s, Nat.reduceAdd, le8_0, le8_1, le8_2, le8_3, le8_4, le8_5, le8_6, le8_7, le8_8, Classical.not_not, aT40, aT41, aT42, aT44, aT54, aT58, aT59, rT54, rT58, rT59, reduceIte, Nat.reduceEqDiff, qn_42, qn_44, true_implies, not_true_eq_false, not_false_eq_true, false_implies]
      rw [E 9 c] at hk1
      exact hk1
    · rw [E 10 c] at hk1; exact hk1
    · rw [E 11 c] at hk1; exact hk1
    · rw [if_neg (N 0 c0), if_neg (N 5 c5), if_neg (N 7 c7), if_neg (N 11 c11), if_pos rfl, if_neg (by
        intro q
        omega)] at hk1
      exact hk1
  | false =>
    rw [ho, bI_f] at f5
    rw [ho] at hk1
    refine vc_X 20 _ _ _ _ _ _ _ ?_
    simp only [↓v157_0, ↓v157_1, ↓v157_2, ↓v157_5, ↓v157_6, ↓v157_7, ↓v157_8, ↓v157_72, ↓v157_73, ↓v157_76, ↓v157_77, ↓v157_78, ↓v157_81, ↓v157_82, ↓v157_83, ↓v157_84, ↓v157_85, ↓v157_86, ↓v157_89, ↓v157_92, ↓v157_93, ↓v157_94, ↓v157_95, ↓v157_98, ↓v157_101, ↓v157_102, ↓v157_105, ↓v157_106, ↓v157_107, ↓v157_108, ↓v157_111, ↓v157_114, ↓v157_115, ↓v157_116, ↓v157_117, ↓v157_120, ↓v157_123, ↓v157_124, ↓v157_127, ↓v157_128, ↓v157_131, ↓v157_132, ↓v157_133, ↓v157_136, ↓v157_139, ↓v157_140, ↓v157_143, ↓v157_144, ↓v157_147, ↓v157_148, ↓v157_149, ↓v157_152, ↓v157_153, ↓v157_154, ↓v157_157, ↓v157_160, ↓v157_161, ↓v157_164, ↓v157_165, ↓v157_168, ↓v157_169, ↓v157_170, ↓v157_173, ↓v157_175, ↓v157_176, ↓v157_179, ↓v157_180, ↓v157_181, ↓v157_182, ↓v157_183, ↓v157_184, ↓v157_185, ↓v157_188, ↓v157_191, ↓v157_192, ↓v157_195, ↓v157_196, ↓v157_199, ↓v157_200, ↓v157_201, ↓v157_204, ↓v157_207, ↓v157_208, ↓v157_211, ↓v157_212, ↓v157_215, ↓v157_216, ↓v157_217, ↓v157_220, ↓v157_223, ↓v157_224, ↓v157_227, ↓v157_228, ↓v157_231, ↓v157_232, ↓v157_233, ↓v157_236, ↓v157_239, ↓v157_240, ↓v157_243, ↓v157_244, ↓v157_245, ↓v157_246, ↓qI_c, ↓qL_c, ↓qR_c, ↓pA_o, ↓qC_i, ↓qC_r, ↓oA_s, ↓gI_0, ↓gI_1, ↓gI_2, ↓gI_3, ↓gI_4, ↓gI_5, ↓gI_6, ↓gI_7, ↓gI_8, ↓gI_9, ↓gI_10, ↓gR_0, ↓gR_1, ↓gR_2, ↓gR_3, ↓gR_4, ↓gR_5, ↓gR_6, ↓gR_7, ↓gR_8, ↓gR_9, ↓gR_10, ↓sL_0, ↓sL_1, ↓sL_2, ↓sL_3, ↓sL_4, ↓sL_5, ↓sL_6, ↓sL_7, ↓sL_8, ↓sL_9, ↓sL_10, ↓rrf_si, ↓rrf_sg, ↓shO_si, ↓shO_sg, ↓shO_sr, ↓shA_si, ↓shA_sg, ↓shA_sr, ↓pAs_0, ↓pAs_i, ↓pAs_r, stk_n, stk_i, stk_l, stk_r, List.nil_append, List.cons_append, true_and, and_true, true_or, or_true, Nat.zero_add, dp_s, Nat.reduceAdd, le8_0, le8_1, le8_2, le8_3, le8_4, le8_5, le8_6, le8_7, le8_8, Classical.not_not, aT40, aT41, aT42, aT44, aT54, aT58, aT59, rT54, rT58, rT59, reduceIte, Nat.reduceEqDiff, qn_42, qn_44, true_implies, not_true_eq_false, not_false_eq_true, false_implies, hM1, ↓shO_of hs.1.1, f13, f14, f28, f5, i00, f9, f10, f11, f12, ↓rrf_of hs.1.2.2.2.1, ↓shO_of hs1.1.1]
    refine ⟨fun c => ?_, fun c0 => ⟨fun c => ?_, fun c1 => ⟨fun c => ?_, fun c2 => ⟨fun c => ?_, fun c3 => ⟨fun c => ?_, fun c4 => ⟨fun c => ?_, fun c5 => ⟨fun c => ?_, fun c6 => ⟨fun c => ?_, fun c7 => ⟨fun c => ?_, fun c8 => ⟨fun c => ?_, fun c9 => ⟨fun c => ?_, fun c10 => ⟨fun c => ?_, fun c11 => ?_⟩⟩⟩⟩⟩⟩⟩⟩⟩⟩⟩⟩
    · rw [E 0 c] at hk1; exact hk1
    · rw [E 1 c] at hk1; exact hk1
    · exact lop (by rw [E 2 c] at hk1; exact hk1) s.ws.length 0 (by omega)
    · refine e123 hs1 h1.2.2.1.2.2.2.1 f9 h1.2.2.2.2.2.2.2.2 ⟨_, rfl, ?_⟩
      refine vc_X 20 _ _ _ _ _ _ _ ?_
      simp only [↓v157_0, ↓v157_1, ↓v157_2, ↓v157_5, ↓v157_6, ↓v157_7, ↓v157_8, ↓v157_72, ↓v157_73, ↓v157_76, ↓v157_77, ↓v157_78, ↓v157_81, ↓v157_82, ↓v157_83, ↓v157_84, ↓v157_85, ↓v157_86, ↓v157_89, ↓v157_92, ↓v157_93, ↓v157_94, ↓v157_95, ↓v157_98, ↓v157_101, ↓v157_102, ↓v157_105, ↓v157_106, ↓v157_107, ↓v157_108, ↓v157_111, ↓v157_114, ↓v157_115, ↓v157_116, ↓v157_117, ↓v157_120, ↓v157_123, ↓v157_124, ↓v157_127, ↓v157_128, ↓v157_131, ↓v157_132, ↓v157_133, ↓v157_136, ↓v157_139, ↓v157_140, ↓v157_143, ↓v157_144, ↓v157_147, ↓v157_148, ↓v157_149, ↓v157_152, ↓v157_153, ↓v157_154, ↓v157_157, ↓v157_160, ↓v157_161, ↓v157_164, ↓v157_165, ↓v157_168, ↓v157_169, ↓v157_170, ↓v157_173, ↓v157_175, ↓v157_176, ↓v157_179, ↓v157_180, ↓v157_181, ↓v157_182, ↓v157_183, ↓v157_184, ↓v157_185, ↓v157_188, ↓v157_191, ↓v157_192, ↓v157_195, ↓v157_196, ↓v157_199, ↓v157_200, ↓v157_201, ↓v157_204, ↓v157_207, ↓v157_208, ↓v157_211, ↓v157_212, ↓v157_215, ↓v157_216, ↓v157_217, ↓v157_220, ↓v157_223, ↓v157_224, ↓v157_227, ↓v157_228, ↓v157_231, ↓v157_232, ↓v157_233, ↓v157_236, ↓v157_239, ↓v157_240, ↓v157_243, ↓v157_244, ↓v157_245, ↓v157_246, ↓qI_c, ↓qL_c, ↓qR_c, ↓pA_o, ↓qC_i, ↓qC_r, ↓oA_s, ↓gI_0, ↓gI_1, ↓gI_2, ↓gI_3, ↓gI_4, ↓gI_5, ↓gI_6, ↓gI_7, ↓gI_8, ↓gI_9, ↓gI_10, ↓gR_0, ↓gR_1, ↓gR_2, ↓gR_3, ↓gR_4, ↓gR_5, ↓gR_6, ↓gR_7, ↓gR_8, ↓gR_9, ↓gR_10, ↓sL_0, ↓sL_1, ↓sL_2, ↓sL_3, ↓sL_4, ↓sL_5, ↓sL_6, ↓sL_7, ↓sL_8, ↓sL_9, ↓sL_10, ↓rrf_si, ↓rrf_sg, ↓shO_si, ↓shO_sg, ↓shO_sr, ↓shA_si, ↓shA_sg, ↓shA_sr, ↓pAs_0, ↓pAs_i, ↓pAs_r, stk_n, stk_i, stk_l, stk_r, List.nil_append, List.cons_append, true_and, and_true, true_or, or_true, Nat.zero_add, dp_s, Nat.reduceAdd, le8_0, le8_1, le8_2, le8_3, le8_4, le8_5, le8_6, le8_7, le8_8, Classical.not_not, aT40, aT41, aT42, aT44, aT54, aT58, aT59, rT54, rT58, rT59, reduceIte, Nat.reduceEqDiff, qn_42, qn_44, true_implies, not_true_eq_false, not_false_eq_true, false_implies]
      rw [E 3 c] at hk1
      exact hk1
    · rw [E 4 c] at hk1; exact hk1
    · rw [E 5 c] at hk1; exact hk1
    · rw [E 6 c] at hk1; exact hk1
    · refine seven ?_
      rw [E 7 c] at hk1
      exact hk1
    · rw [E 8 c] at hk1; exact hk1
    · refine e140 hs1 h1.2.2.2.1.2.1 h1.2.2.2.2.2.1 ⟨_, rfl, ?_⟩
      refine vc_X 20 _ _ _ _ _ _ _ ?_
      simp only [↓v157_0, ↓v157_1, ↓v157_2, ↓v157_5, ↓v157_6, ↓v157_7, ↓v157_8, ↓v157_72, ↓v157_73, ↓v157_76, ↓v157_77, ↓v157_78, ↓v157_81, ↓v157_82, ↓v157_83, ↓v157_84, ↓v157_85, ↓v157_86, ↓v157_89, ↓v157_92, ↓v157_93, ↓v157_94, ↓v157_95, ↓v157_98, ↓v157_101, ↓v157_102, ↓v157_105, ↓v157_106, ↓v157_107, ↓v157_108, ↓v157_111, ↓v157_114, ↓v157_115, ↓v157_116, ↓v157_117, ↓v157_120, ↓v157_123, ↓v157_124, ↓v157_127, ↓v157_128, ↓v157_131, ↓v157_132, ↓v157_133, ↓v157_136, ↓v157_139, ↓v157_140, ↓v157_143, ↓v157_144, ↓v157_147, ↓v157_148, ↓v157_149, ↓v157_152, ↓v157_153, ↓v157_154, ↓v157_157, ↓v157_160, ↓v157_161, ↓v157_164, ↓v157_165, ↓v157_168, ↓v157_169, ↓v157_170, ↓v157_173, ↓v157_175, ↓v157_176, ↓v157_179, ↓v157_180, ↓v157_181, ↓v157_182, ↓v157_183, ↓v157_184, ↓v157_185, ↓v157_188, ↓v157_191, ↓v157_192, ↓v157_195, ↓v157_196, ↓v157_199, ↓v157_200, ↓v157_201, ↓v157_204, ↓v157_207, ↓v157_208, ↓v157_211, ↓v157_212, ↓v157_215, ↓v157_216, ↓v157_217, ↓v157_220, ↓v157_223, ↓v157_224, ↓v157_227, ↓v157_228, ↓v157_231, ↓v157_232, ↓v157_233, ↓v157_236, ↓v157_239, ↓v157_240, ↓v157_243, ↓v157_244, ↓v157_245, ↓v157_246, ↓qI_c, ↓qL_c, ↓qR_c, ↓pA_o, ↓qC_i, ↓qC_r, ↓oA_s, ↓gI_0, ↓gI_1, ↓gI_2, ↓gI_3, ↓gI_4, ↓gI_5, ↓gI_6, ↓gI_7, ↓gI_8, ↓gI_9, ↓gI_10, ↓gR_0, ↓gR_1, ↓gR_2, ↓gR_3, ↓gR_4, ↓gR_5, ↓gR_6, ↓gR_7, ↓gR_8, ↓gR_9, ↓gR_10, ↓sL_0, ↓sL_1, ↓sL_2, ↓sL_3, ↓sL_4, ↓sL_5, ↓sL_6, ↓sL_7, ↓sL_8, ↓sL_9, ↓sL_10, ↓rrf_si, ↓rrf_sg, ↓shO_si, ↓shO_sg, ↓shO_sr, ↓shA_si, ↓shA_sg, ↓shA_sr, ↓pAs_0, ↓pAs_i, ↓pAs_r, stk_n, stk_i, stk_l, stk_r, List.nil_append, List.cons_append, true_and, and_true, true_or, or_true, Nat.zero_add, dp_s, Nat.reduceAdd, le8_0, le8_1, le8_2, le8_3, le8_4, le8_5, le8_6, le8_7, le8_8, Classical.not_not, aT40, aT41, aT42, aT44, aT54, aT58, aT59, rT54, rT58, rT59, reduceIte, Nat.reduceEqDiff, qn_42, qn_44, true_implies, not_true_eq_false, not_false_eq_true, false_implies]
      rw [E 9 c] at hk1
      exact hk1
    · rw [E 10 c] at hk1; exact hk1
    · rw [E 11 c] at hk1; exact hk1
    · rw [if_neg (N 0 c0), if_neg (N 5 c5), if_neg (N 7 c7), if_neg (N 11 c11), if_neg (by decide), if_neg (N 1 c1), if_neg (N 2 c2), if_neg (N 3 c3), if_neg (N 4 c4), if_neg (N 6 c6), if_neg (N 8 c8), if_neg (N 9 c9), if_neg (N 10 c10)] at hk1
      exact hk1
