/-! the latest record on the disk; poll, disk, record, waiting, extent, about -/
theorem CP.sl {M : Mm} {b : Nat} {D : DT} {Q : QT} {C : List Nat × Nat} {L : (Nat → Nat) × Option Nat} {I : IT} {T : List Nat × List Nat} {E : (Nat → Option Nat) × (Nat → Bool)} {F : FT} (h : CP M b D Q C L I T E F) : SlC M (b + 1) D.2.1 (F.1 D.2.1) (D.2.2.map (fun a => (a, F.1 a))) := by
  obtain ⟨h1, h2, h3, h4, h5⟩ := h.2.1
  refine ⟨h1.1, h2, h4.1, ?_, fun z hz => ?_⟩
  · show M.rf (b + 3) 1 = _
    rw [h3]
    cases D.2.2 <;> rfl
  · cases hd : D.2.2 with
    | none => rw [hd] at hz; cases hz
    | some a =>
      rw [hd] at hz
      cases hz
      exact (h5 a hd).1
theorem c16 {d c : Nat} {M : Mm} {k : mQ} {b : Nat} {s : Ms} {D : DT} {pm : Nat → Nat} {ws : List WT} {G : Nat → RecT} {a : Nat} {C : List Nat × Nat} {L : (Nat → Nat) × Option Nat} {I : IT} {T : List Nat × List Nat} {E : (Nat → Option Nat) × (Nat → Bool)} {Q : QT} {f : Nat × Option Nat × Nat × Nat × Bool} (h : CP M b D Q C L I T E (G, f)) (r : CR s D pm ws G a) (hi : IvS c s) (hk : ∀ a1, RcC M b G a1 → G a1 = s.R → k (some (.inr (.inr (some a1)))) M) : XC (d + 1) 16 [.inr (some (b + 1))] M k := by
  obtain ⟨⟨d1, d2⟩, _⟩ := hi.2.2.2.2.1
  obtain ⟨h1, h2, h3, h4, h5⟩ := h.2.1
  have r1 := r.2.1
  have r2 := r.2.2.1
  have eR : s.R = latR s.s0 s.s1 := rfl
  refine k16 h.sl (fun c => hk _ h4 ?_) (fun z hz c => ?_)
  · rw [eR, ← r1, ← r2]
    cases hd : D.2.2 with
    | none => rfl
    | some a1 =>
      rw [hd] at c
      have c : decide ((G D.2.1).1 ≤ (G a1).1) = false := c
      have c := of_decide_eq_false c
      show G D.2.1 = if (G D.2.1).1 < (G a1).1 then G a1 else G D.2.1
      rw [if_neg (by omega)]
  · cases hd : D.2.2 with
    | none => rw [hd] at hz; cases hz
    | some a1 =>
      rw [hd] at hz c r2
      cases hz
      have c : decide ((G D.2.1).1 ≤ (G a1).1) = true := c
      have c := of_decide_eq_true c
      refine hk a1 (h5 a1 hd) ?_
      rw [eR, ← r1, ← r2]
      show G a1 = if (G D.2.1).1 < (G a1).1 then G a1 else G D.2.1
      have e0 : (G D.2.1).1 % 2 = 0 := by rw [r1]; exact d1
      have e1 : (G a1).1 % 2 = 1 := d2 _ (by rw [← r2]; rfl)
      rw [if_pos (by omega)]
theorem mPoll_s (x : Int32) (s : Ms) : (mPoll x s).2 = s := by
  unfold mPoll
  split
  · rfl
  · split
    · rfl
    · split <;> rfl
theorem c90 {d c : Nat} {M : Mm} {k : mQ} {b : Nat} {s : Ms} {x : Int32} (h : CM M b s) (hi : IvS c s) (hc : c ≤ 512) (hk : k (some (.inl (mPoll x s).1)) M) : XC (d + 2) 90 [.inr (some b), .inl x] M k := by
  obtain ⟨D, pm, ws, im, G, a, h, r⟩ := h
  have f17 : M.it b 17 = nI s.mu := h.f17
  have hm : s.mu ≤ c := hi.2.2.1.2.2.2.1
  have hDs := h.2.1.1.1.1
  refine xc ?_
  show X (d + 1) 90 0 [some (.inr (some b)), some (.inl x)] [] M k
  unfold mPoll at hk
  by_cases c1 : x.toInt < 1 ∨ (s.mu : Int) < x.toInt
  · rw [if_pos c1] at hk
    refine vc_X 40 _ _ _ _ _ _ _ ?_
    simp only [↓v90_0, ↓v90_1, ↓v90_2, ↓v90_5, ↓v90_6, ↓v90_7, ↓v90_10, ↓v90_13, ↓v90_14, ↓v90_15, ↓v90_18, ↓v90_19, ↓v90_22, ↓v90_23, ↓v90_24, ↓v90_25, ↓v90_28, ↓v90_29, ↓v90_30, ↓v90_33, ↓v90_34, ↓v90_35, ↓v90_36, ↓v90_39, ↓v90_42, ↓v90_45, ↓v90_46, ↓v90_49, ↓v90_50, ↓v90_53, ↓v90_54, ↓qI_c, ↓qL_c, ↓qR_c, ↓pA_o, ↓qC_i, ↓qC_r, ↓oA_s, ↓gI_0, ↓gI_1, ↓gI_2, ↓gI_3, ↓gI_4, ↓gI_5, ↓gI_6, ↓gI_7, ↓gI_8, ↓gI_9, ↓gI_10, ↓gR_0, ↓gR_1, ↓gR_2, ↓gR_3, ↓gR_4, ↓gR_5, ↓gR_6, ↓gR_7, ↓gR_8, ↓gR_9, ↓gR_10, ↓sL_0, ↓sL_1, ↓sL_2, ↓sL_3, ↓sL_4, ↓sL_5, ↓sL_6, ↓sL_7, ↓sL_8, ↓sL_9, ↓sL_10, ↓rrf_si, ↓rrf_sg, ↓shO_si, ↓shO_sg, ↓shO_sr, ↓shA_si, ↓shA_sg, ↓shA_sr, ↓pAs_0, ↓pAs_i, ↓pAs_r, stk_n, stk_i, stk_l, stk_r, List.nil_append, List.cons_append, true_and, and_true, true_or, or_true, Nat.zero_add, dp_s, Nat.reduceAdd, le8_0, le8_1, le8_2, le8_3, le8_4, le8_5, le8_6, le8_7, le8_8, Classical.not_not, aT40, aT41, aT42, aT44, aT54, aT58, aT59, rT54, rT58, rT59, reduceIte, Nat.reduceEqDiff, qn_42, qn_44, true_implies, not_true_eq_false, not_false_eq_true, false_implies, lt_T, le_T, T_1, ↓shO_of h.1.1.1, f17, nT (show s.mu < 2147483648 by omega), ↓rrf_of h.1.2.1.2.2.2.2.2.2.2, ↓shA_of h.1.2.2.1.2.2.2]
    fail
  · fail
