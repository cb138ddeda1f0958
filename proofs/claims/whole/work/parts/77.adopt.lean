/-! Index: adopt, addOlder -/
def adN (mg : Bool) (tb : TbT) : Nat := if mg = true ∨ 3 ≤ tb.length then 0 else tb.length
def imA (im : Nat → Nat) (n : Nat) : Nat → Nat := fun t => if t = 0 then im 3 else if t ≤ n then im (t - 1) else if t = 3 then im n else im t
theorem imA_lt {im : Nat → Nat} {n : Nat} (h : ∀ t, t < 4 → im t < 4) (hn : n ≤ 2) : ∀ t, t < 4 → imA im n t < 4 := by
  intro t ht
  unfold imA
  repeat' split
  all_goals exact h _ (by omega)
theorem imA_inj {im : Nat → Nat} {n : Nat} (h : ∀ t u, t < 4 → u < 4 → im t = im u → t = u) (hn : n ≤ 2) : ∀ t u, t < 4 → u < 4 → imA im n t = imA im n u → t = u := by
  intro t u ht hu e
  unfold imA at e
  repeat' split at e
  all_goals first
    | omega
    | (have := h _ _ (by omega) (by omega) e; omega)
def Ro (M : Mm) (x : Nat) (r : Nat → Nat) : Prop := M.sh x = some (5, 0) ∧ M.rf x 1 = some (x + 3) ∧ M.sh (x + 3) = some (54, 3) ∧ (∀ s, s < 4 → M.sh (x + 4 + 2 * s) = some (4, 0)) ∧ ∀ t, t < 3 → M.rf (x + 3) t = some (x + 4 + 2 * r t) ∧ r t < 4
theorem lop77 {d : Nat} {k : mQ} {x : Nat} {z1 z2 z3 : Option mL} : ∀ (t : Nat) (M : Mm) (r : Nat → Nat), t ≤ 2 → Ro M x r → (∀ M', Ro M' x (fun j => if j = 0 then r 0 else if j ≤ t then r (j - 1) else r j) → Of (· = x + 3) M M' → X d 77 33 [some (.inr (some x)), z1, z2, z3, some (.inl 0)] [] M' k) →
    X d 77 33 [some (.inr (some x)), z1, z2, z3, some (.inl (nI t))] [] M k := by
  intro t
  induction t with
  | zero =>
    intro M r ht h hk
    refine hk M ⟨h.1, h.2.1, h.2.2.1, h.2.2.2.1, fun t ht => ?_⟩ Of.rf_
    have := h.2.2.2.2 t ht
    dsimp only
    by_cases h0 : t = 0
    · rw [h0] at this; rw [if_pos h0, h0]; exact this
    · rw [if_neg h0, if_neg (by omega)]; exact this
  | succ t ih =>
    intro M r ht h hk
    obtain ⟨b1, b2, b3, b4, b5⟩ := id h
    have r1 : M.rf (x + 3) (nI (t + 1) - 1).toNatClampNeg = some (x + 4 + 2 * r t) := by rw [nI_pred, nC (by omega)]; exact (b5 t (by omega)).1
    have hn1 : nI (t + 1) + -1 = nI t := pk_m1 t
    refine vc_X 40 _ _ _ _ _ _ _ ?_
    simp only [↓v77_0, ↓v77_1, ↓v77_4, ↓v77_5, ↓v77_8, ↓v77_9, ↓v77_12, ↓v77_13, ↓v77_14, ↓v77_17, ↓v77_18, ↓v77_21, ↓v77_22, ↓v77_25, ↓v77_26, ↓v77_27, ↓v77_28, ↓v77_31, ↓v77_33, ↓v77_35, ↓v77_38, ↓v77_39, ↓v77_42, ↓v77_44, ↓v77_45, ↓v77_48, ↓v77_50, ↓v77_51, ↓v77_52, ↓v77_53, ↓v77_54, ↓v77_57, ↓v77_60, ↓v77_61, ↓v77_64, ↓v77_65, ↓v77_66, ↓v77_69, ↓v77_70, ↓v77_71, ↓v77_74, ↓v77_75, ↓v77_76, ↓v77_77, ↓v77_80, ↓v77_81, ↓v77_82, ↓v77_85, ↓v77_86, ↓v77_87, ↓v77_90, ↓v77_91, ↓v77_92, ↓v77_95, ↓v77_96, ↓v77_99, ↓v77_102, ↓qI_c, ↓qL_c, ↓qR_c, ↓pA_o, ↓qC_i, ↓qC_r, ↓oA_s, ↓gI_0, ↓gI_1, ↓gI_2, ↓gI_3, ↓gI_4, ↓gI_5, ↓gI_6, ↓gI_7, ↓gI_8, ↓gI_9, ↓gI_10, ↓gR_0, ↓gR_1, ↓gR_2, ↓gR_3, ↓gR_4, ↓gR_5, ↓gR_6, ↓gR_7, ↓gR_8, ↓gR_9, ↓gR_10, ↓sL_0, ↓sL_1, ↓sL_2, ↓sL_3, ↓sL_4, ↓sL_5, ↓sL_6, ↓sL_7, ↓sL_8, ↓sL_9, ↓sL_10, ↓rrf_si, ↓rrf_sg, ↓shO_si, ↓shO_sg, ↓shO_sr, ↓shA_si, ↓shA_sg, ↓shA_sr, ↓pAs_0, ↓pAs_i, ↓pAs_r, stk_n, stk_i, stk_l, stk_r, List.nil_append, List.cons_append, true_and, and_true, true_or, or_true, Nat.zero_add, dp_s, Nat.reduceAdd, le8_0, le8_1, le8_2, le8_3, le8_4, le8_5, le8_6, le8_7, le8_8, Classical.not_not, aT40, aT41, aT42, aT44, aT54, aT58, aT59, rT54, rT58, rT59, reduceIte, Nat.reduceEqDiff, qn_42, qn_44, true_implies, not_true_eq_false, not_false_eq_true, false_implies, ↓shO_of b1, ↓rrf_of b2, ↓shA_of b3, ↓rrf_of r1, le_T, T_0, nT (show t + 1 < 2147483648 by omega), nC (show t + 1 < 2147483648 by omega), nI_pred, hn1]
    refine ⟨fun c => by omega, fun _ => ⟨inB_n (by omega) (by omega), inB_n (by omega) (by omega), fun b hb => ?_, ?_⟩⟩
    · cases hb
      exact b4 _ (b5 t (by omega)).2
    · generalize hM1 : M.sr (x + 3) (t + 1) (some (x + 4 + 2 * r t)) = M1
      have o1 : Of (· = x + 3) M M1 := by rw [← hM1]; exact Of.rf_.r rfl
      refine ih M1 (fun j => if j = t + 1 then r t else r j) (by omega) ⟨by rw [o1.1]; exact b1, by rw [(o1.2.2.2 x (by omega) 1).2.2]; exact b2, by rw [o1.1]; exact b3, fun s hs => by rw [o1.1]; exact b4 s hs, fun j hj => ?_⟩ (fun M2 h2 o2 => hk M2 ?_ (o1.trans o2 (fun _ x => x)))
      · rw [← hM1, sr_rf]
        by_cases hjt : j = t + 1
        · dsimp only
          rw [if_pos ⟨rfl, hjt⟩, if_pos hjt]
          exact ⟨rfl, (b5 t (by omega)).2⟩
        · dsimp only
          rw [if_neg (fun q => hjt q.2), if_neg hjt]
          exact b5 j hj
      · obtain ⟨f1, f2, f3, f4, f5⟩ := h2
        refine ⟨f1, f2, f3, f4, fun j hj => ?_⟩
        have := f5 j hj
        have e : (if j = 0 then r 0 else if j ≤ t + 1 then r (j - 1) else r j) = (if j = 0 then (if 0 = t + 1 then r t else r 0) else if j ≤ t then (if j - 1 = t + 1 then r t else r (j - 1)) else (if j = t + 1 then r t else r j)) := by
          rw [if_neg (show ¬ 0 = t + 1 by omega)]
          by_cases h0 : j = 0
          · rw [if_pos h0, if_pos h0]
          · rw [if_neg h0, if_neg h0]
            by_cases h1 : j ≤ t
            · rw [if_pos h1, if_pos (by omega), if_neg (by omega)]
            · rw [if_neg h1]
              by_cases h2 : j = t + 1
              · rw [if_pos h2, if_pos (by omega), h2]; congr 1
              · rw [if_neg h2, if_neg (by omega)]
        dsimp only at this ⊢
        rw [e]
        exact this
theorem t0C : (0 : Int32).toNatClampNeg = 0 := rfl
theorem k77 {d : Nat} {M : Mm} {k : mQ} {x p : Nat} {im : Nat → Nat} {ch fr : Nat → Option Nat} {tb : TbT} {mg : Bool} (h : IxC M x im ch tb) (hf : EnC M (x + 4 + 2 * im 3) (x + 5 + 2 * im 3) fr none) (hp : p < 128) (hk : ∀ M', IxC M' x (imA im (adN mg tb)) (fun _ => none) ((p, fr) :: tb.take (adN mg tb)) → Of (PX x) M M' → k none M') : XC (d + 3) 77 [.inr (some x), .inl (bI mg), .inl (nI p)] M k := by
  obtain ⟨⟨b1, b2, b3, b4, b5, b6, b7, b8, b9⟩, g1, g2, g3, g4⟩ := id h
  have i3 := b7 3 (by omega)
  generalize hn : adN mg tb = n at hk
  have hn2 : n ≤ 2 ∧ n ≤ tb.length := by
    rw [← hn]
    unfold adN
    split <;> omega
  have main : ∀ M0, Of (· = x) M M0 → M0.it x 2 = nI n → M0.rf = M.rf → X (d + 2) 77 33 [some (.inr (some x)), some (.inl (bI mg)), some (.inl (nI p)), some (.inr (some (x + 4 + 2 * im n))), some (.inl (nI n))] [] M0 k := by
    intro M0 o0 c0 f0
    refine lop77 n M0 im hn2.1 ⟨by rw [o0.1]; exact b1, by rw [f0]; exact b3, by rw [o0.1]; exact b5, fun s hs => by rw [o0.1]; exact (b9 s hs).1, fun t ht => by rw [f0]; exact ⟨b6 t ht, b7 t (by omega)⟩⟩ (fun M1 h1 o1 => ?_)
    obtain ⟨r1, r2, r3, r4, r5⟩ := h1
    have c1 : M1.it x 2 = nI n := by rw [(o1.2.2.2 x (by omega) 2).1]; exact c0
    have f1 : M1.rf x 3 = some (x + 4 + 2 * im 3) := by rw [(o1.2.2.2 x (by omega) 3).2.2, f0]; exact b4
    have f2 : M1.rf x 0 = some (x + 1) := by rw [(o1.2.2.2 x (by omega) 0).2.2, f0]; exact b2
    have sf : M1.sh (x + 4 + 2 * im 3) = some (4, 0) := r4 _ i3
    have sc : M1.sh (x + 1) = some (4, 0) := by rw [o1.1, o0.1]; exact g1.1.1
    generalize hM2 : M1.sr (x + 3) 0 (some (x + 4 + 2 * im 3)) = M2
    have o2 : Of (· = x + 3) M1 M2 := by rw [← hM2]; exact Of.rf_.r rfl
    have q1 : M2.rf (x + 3) 0 = some (x + 4 + 2 * im 3) := by rw [← hM2, sr_rf, if_pos ⟨rfl, rfl⟩]
    have q2 : M2.rf x 1 = some (x + 3) := by rw [(o2.2.2.2 x (by omega) 1).2.2]; exact r2
    have q3 : M2.sh x = some (5, 0) := by rw [o2.1]; exact r1
    have q4 : M2.sh (x + 3) = some (54, 3) := by rw [o2.1]; exact r3
    have q5 : M2.sh (x + 4 + 2 * im 3) = some (4, 0) := by rw [o2.1]; exact sf
    generalize hM3 : (M2.si (x + 4 + 2 * im 3) 2 (nI p)).sr x 3 (some (x + 4 + 2 * im n)) = M3
    have o3 : Of (fun y => y = x ∨ y = x + 4 + 2 * im 3) M2 M3 := by rw [← hM3]; exact (Of.rf_.i (Or.inr rfl)).r (Or.inl rfl)
    have s1 : M3.sh x = some (5, 0) := by rw [o3.1]; exact q3
    have s2 : M3.it x 2 = nI n := by
      rw [← hM3, sr_it, si_it, if_neg (by omega), (o2.2.2.2 x (by omega) 2).1]; exact c1
    have s3 : M3.rf x 0 = some (x + 1) := by
      rw [← hM3, sr_rf, if_neg (by omega), si_rf, (o2.2.2.2 x (by omega) 0).2.2]; exact f2
    have s4 : M3.sh (x + 1) = some (4, 0) := by rw [o3.1, o2.1]; exact sc
    refine vc_X 60 _ _ _ _ _ _ _ ?_
    simp only [↓v77_0, ↓v77_1, ↓v77_4, ↓v77_5, ↓v77_8, ↓v77_9, ↓v77_12, ↓v77_13, ↓v77_14, ↓v77_17, ↓v77_18, ↓v77_21, ↓v77_22, ↓v77_25, ↓v77_26, ↓v77_27, ↓v77_28, ↓v77_31, ↓v77_33, ↓v77_35, ↓v77_38, ↓v77_39, ↓v77_42, ↓v77_44, ↓v77_45, ↓v77_48, ↓v77_50, ↓v77_51, ↓v77_52, ↓v77_53, ↓v77_54, ↓v77_57, ↓v77_60, ↓v77_61, ↓v77_64, ↓v77_65, ↓v77_66, ↓v77_69, ↓v77_70, ↓v77_71, ↓v77_74, ↓v77_75, ↓v77_76, ↓v77_77, ↓v77_80, ↓v77_81, ↓v77_82, ↓v77_85, ↓v77_86, ↓v77_87, ↓v77_90, ↓v77_91, ↓v77_92, ↓v77_95, ↓v77_96, ↓v77_99, ↓v77_102, ↓qI_c, ↓qL_c, ↓qR_c, ↓pA_o, ↓qC_i, ↓qC_r, ↓oA_s, ↓gI_0, ↓gI_1, ↓gI_2, ↓gI_3, ↓gI_4, ↓gI_5, ↓gI_6, ↓gI_7, ↓gI_8, ↓gI_9, ↓gI_10, ↓gR_0, ↓gR_1, ↓gR_2, ↓gR_3, ↓gR_4, ↓gR_5, ↓gR_6, ↓gR_7, ↓gR_8, ↓gR_9, ↓gR_10, ↓sL_0, ↓sL_1, ↓sL_2, ↓sL_3, ↓sL_4, ↓sL_5, ↓sL_6, ↓sL_7, ↓sL_8, ↓sL_9, ↓sL_10, ↓rrf_si, ↓rrf_sg, ↓shO_si, ↓shO_sg, ↓shO_sr, ↓shA_si, ↓shA_sg, ↓shA_sr, ↓pAs_0, ↓pAs_i, ↓pAs_r, stk_n, stk_i, stk_l, stk_r, List.nil_append, List.cons_append, true_and, and_true, true_or, or_true, Nat.zero_add, dp_s, Nat.reduceAdd, le8_0, le8_1, le8_2, le8_3, le8_4, le8_5, le8_6, le8_7, le8_8, Classical.not_not, aT40, aT41, aT42, aT44, aT54, aT58, aT59, rT54, rT58, rT59, reduceIte, Nat.reduceEqDiff, qn_42, qn_44, true_implies, not_true_eq_false, not_false_eq_true, false_implies, ↓shO_of r1, ↓rrf_of r2, ↓shA_of r3, ↓rrf_of f1, ↓rrf_of f2, le_T, T_0, Int.le_refl, t0C, hM2, ↓rrf_of q1, ↓rrf_of q2, ↓shO_of q3, ↓shA_of q4, ↓shO_of q5, hM3, ↓shO_of s1, s2, ↓rrf_of s3, ↓shO_of s4, ↓shO_of sf, ↓shO_of sc]
    refine ⟨inB_n (j := 0) (by omega) (by omega), fun b hb => by cases hb; exact sf, inB_n (j := 0) (by omega) (by omega), ?_⟩
    rw [nI_1]
    generalize hM4 : M3.si x 2 (nI (n + 1)) = M4
    have o4 : Of (· = x) M3 M4 := by rw [← hM4]; exact Of.rf_.i rfl
    have oA : Of (fun y => y = x ∨ y = x + 3 ∨ y = x + 4 + 2 * im 3) M M4 := ((((o0.mono (fun y hy => Or.inl hy)).trans o1 (fun y hy => Or.inr (Or.inl hy))).trans o2 (fun y hy => Or.inr (Or.inl hy))).trans o3 (fun y hy => by rcases hy with h | h; exact Or.inl h; exact Or.inr (Or.inr h))).trans o4 (fun y hy => Or.inl hy)
    have RF : ∀ y j, y ≠ x → y ≠ x + 3 → M4.rf y j = M.rf y j := by
      intro y j h1 h2
      rw [(o4.2.2.2 y h1 j).2.2, ← hM3, sr_rf, if_neg (fun q => h1 q.1), si_rf, (o2.2.2.2 y h2 j).2.2, (o1.2.2.2 y h2 j).2.2, f0]
    refine k11 (g1.1.kf oA (by omega)) (fun M5 e5 o5 => ⟨rfl, ?_⟩)
    refine vc_X 10 _ _ _ _ _ _ _ ?_
    simp only [↓v77_0, ↓v77_1, ↓v77_4, ↓v77_5, ↓v77_8, ↓v77_9, ↓v77_12, ↓v77_13, ↓v77_14, ↓v77_17, ↓v77_18, ↓v77_21, ↓v77_22, ↓v77_25, ↓v77_26, ↓v77_27, ↓v77_28, ↓v77_31, ↓v77_33, ↓v77_35, ↓v77_38, ↓v77_39, ↓v77_42, ↓v77_44, ↓v77_45, ↓v77_48, ↓v77_50, ↓v77_51, ↓v77_52, ↓v77_53, ↓v77_54, ↓v77_57, ↓v77_60, ↓v77_61, ↓v77_64, ↓v77_65, ↓v77_66, ↓v77_69, ↓v77_70, ↓v77_71, ↓v77_74, ↓v77_75, ↓v77_76, ↓v77_77, ↓v77_80, ↓v77_81, ↓v77_82, ↓v77_85, ↓v77_86, ↓v77_87, ↓v77_90, ↓v77_91, ↓v77_92, ↓v77_95, ↓v77_96, ↓v77_99, ↓v77_102, ↓qI_c, ↓qL_c, ↓qR_c, ↓pA_o, ↓qC_i, ↓qC_r, ↓oA_s, ↓gI_0, ↓gI_1, ↓gI_2, ↓gI_3, ↓gI_4, ↓gI_5, ↓gI_6, ↓gI_7, ↓gI_8, ↓gI_9, ↓gI_10, ↓gR_0, ↓gR_1, ↓gR_2, ↓gR_3, ↓gR_4, ↓gR_5, ↓gR_6, ↓gR_7, ↓gR_8, ↓gR_9, ↓gR_10, ↓sL_0, ↓sL_1, ↓sL_2, ↓sL_3, ↓sL_4, ↓sL_5, ↓sL_6, ↓sL_7, ↓sL_8, ↓sL_9, ↓sL_10, ↓rrf_si, ↓rrf_sg, ↓shO_si, ↓shO_sg, ↓shO_sr, ↓shA_si, ↓shA_sg, ↓shA_sr, ↓pAs_0, ↓pAs_i, ↓pAs_r, stk_n, stk_i, stk_l, stk_r, List.nil_append, List.cons_append, true_and, and_true, true_or, or_true, Nat.zero_add, dp_s, Nat.reduceAdd, le8_0, le8_1, le8_2, le8_3, le8_4, le8_5, le8_6, le8_7, le8_8, Classical.not_not, aT40, aT41, aT42, aT44, aT54, aT58, aT59, rT54, rT58, rT59, reduceIte, Nat.reduceEqDiff, qn_42, qn_44, true_implies, not_true_eq_false, not_false_eq_true, false_implies]
    have oB : Of (PX x) M M5 := (oA.mono (fun y hy => ⟨by omega, by omega⟩)).trans (o5.of (P := PX x) (fun y hy => by simp at hy; exact ⟨by omega, by omega⟩)) (fun _ h => h)
    have SH : M5.sh = M.sh := oB.1
    have R5 : M5.rf = M4.rf := o5.2.2.2.2.1
    have R4 : ∀ j, j ≠ 3 → M4.rf x j = M1.rf x j := by
      intro j hj
      rw [show M4.rf = M3.rf by rw [← hM4]; rfl, ← hM3, sr_rf, if_neg (fun q => hj q.2), si_rf, (o2.2.2.2 x (by omega) j).2.2]
    have EN : ∀ s, s < 4 → En M5 (x + 4 + 2 * s) (x + 5 + 2 * s) := by
      intro s hs
      obtain ⟨w1, w2, w3⟩ := b9 s hs
      exact ⟨by rw [SH]; exact w1, by rw [R5, RF _ _ (by omega) (by omega)]; exact w2, by rw [SH]; exact w3⟩
    have IT : ∀ y j, PX x y → y ≠ x → y ≠ x + 1 → y ≠ x + 2 → y ≠ x + 3 → y ≠ x + 4 + 2 * im 3 → M5.it y j = M.it y j := by
      intro y j _ h0 h1 h2 h3 h4
      rw [o5.2.2.2.2.2 y (by simp; omega), (oA.2.2.2 y (by omega) j).1]
    refine hk M5 ⟨⟨by rw [SH]; exact b1, ?_, ?_, ?_, by rw [SH]; exact b5, fun t ht => ?_, imA_lt b7 hn2.1, imA_inj b8 hn2.1, EN⟩, e5, ?_, ?_, fun t z hz => ?_⟩ oB
    · rw [R5, R4 0 (by omega)]; exact f2
    · rw [R5, R4 1 (by omega)]; exact r2
    · rw [R5, show M4.rf = M3.rf by rw [← hM4]; rfl, ← hM3, sr_rf, if_pos ⟨rfl, rfl⟩]
      unfold imA
      rw [if_neg (by omega), if_neg (by omega), if_pos rfl]
    · rw [R5, show M4.rf = M3.rf by rw [← hM4]; rfl, ← hM3, sr_rf, if_neg (by omega), si_rf]
      unfold imA
      by_cases ht0 : t = 0
      · rw [ht0, if_pos rfl]; exact q1
      · rw [if_neg ht0, ← hM2, sr_rf, if_neg (fun q => ht0 q.2)]
        have := (r5 t ht).1
        dsimp only at this
        rw [if_neg ht0] at this
        by_cases htn : t ≤ n
        · rw [if_pos htn] at this ⊢; exact this
        · rw [if_neg htn] at this ⊢; rw [if_neg (by omega)]; exact this
    · rw [o5.2.2.2.2.2 x (by simp), ← hM4, si_it, if_pos ⟨rfl, rfl⟩, List.length_cons, List.length_take, Nat.min_eq_left hn2.2]
    · rw [List.length_cons, List.length_take]; omega
    · cases t with
      | zero =>
        rw [List.getElem?_cons_zero] at hz
        cases hz
        have e0 : imA im n 0 = im 3 := by unfold imA; rw [if_pos rfl]
        rw [e0]
        refine ⟨⟨EN _ i3, fun j hj => ?_, hf.2.2.1, ?_, ?_⟩, hp⟩
        · rw [IT _ _ ⟨by omega, by omega⟩ (by omega) (by omega) (by omega) (by omega) (by omega)]
          exact hf.2.1 j hj
        · rw [o5.2.2.2.2.2 _ (by simp; omega), ← hM4, si_it, if_neg (by omega), ← hM3, sr_it, si_it, if_neg (by omega), (o2.2.2.2 _ (by omega) 1).1, (o1.2.2.2 _ (by omega) 1).1, (o0.2.2.2 _ (by omega) 1).1]
          exact hf.2.2.2.1
        · rw [o5.2.2.2.2.2 _ (by simp; omega), ← hM4, si_it, if_neg (by omega), ← hM3, sr_it, si_it, if_pos ⟨rfl, rfl⟩]
          rfl
      | succ t =>
        rw [List.getElem?_cons_succ, List.getElem?_take] at hz
        by_cases htn : t < n
        · rw [if_pos htn] at hz
          have e0 : imA im n (t + 1) = im t := by unfold imA; rw [if_neg (by omega), if_pos (by omega)]; rfl
          have hi := b7 t (by omega)
          have hne : im t ≠ im 3 := fun e => by have := b8 t 3 (by omega) (by omega) e; omega
          rw [e0]
          refine ⟨⟨EN _ hi, fun j hj => ?_, (g4 t z hz).1.2.2.1, ?_, ?_⟩, (g4 t z hz).2⟩
          · rw [IT _ _ ⟨by omega, by omega⟩ (by omega) (by omega) (by omega) (by omega) (by omega)]
            exact (g4 t z hz).1.2.1 j hj
          · rw [IT _ _ ⟨by omega, by omega⟩ (by omega) (by omega) (by omega) (by omega) (by omega)]
            exact (g4 t z hz).1.2.2.2.1
          · rw [IT _ _ ⟨by omega, by omega⟩ (by omega) (by omega) (by omega) (by omega) (by omega)]
            exact (g4 t z hz).1.2.2.2.2
        · rw [if_neg htn] at hz
          cases hz
  refine xc ?_
  show X (d + 2) 77 0 [some (.inr (some x)), some (.inl (bI mg)), some (.inl (nI p)), none, none] [] M k
  have z0 : (M.si x 2 0).it x 2 = 0 := by rw [si_it, if_pos ⟨rfl, rfl⟩]
  have b60 : M.rf (x + 3) 0 = some (x + 4 + 2 * im 0) := b6 0 (by omega)
  have oz : Of (· = x) M (M.si x 2 0) := Of.rf_.i rfl
  have ib0 : inB 0 3 := inB_n (j := 0) (by omega) (by omega)
  cases mg with
  | true =>
    have e0 : n = 0 := by rw [← hn]; unfold adN; rw [if_pos (Or.inl rfl)]
    subst e0
    have m0 := main _ oz z0 rfl
    have e1 : bI true = 1 := rfl
    rw [e1] at m0 ⊢
    refine vc_X 60 _ _ _ _ _ _ _ ?_
    simp only [↓v77_0, ↓v77_1, ↓v77_4, ↓v77_5, ↓v77_8, ↓v77_9, ↓v77_12, ↓v77_13, ↓v77_14, ↓v77_17, ↓v77_18, ↓v77_21, ↓v77_22, ↓v77_25, ↓v77_26, ↓v77_27, ↓v77_28, ↓v77_31, ↓v77_33, ↓v77_35, ↓v77_38, ↓v77_39, ↓v77_42, ↓v77_44, ↓v77_45, ↓v77_48, ↓v77_50, ↓v77_51, ↓v77_52, ↓v77_53, ↓v77_54, ↓v77_57, ↓v77_60, ↓v77_61, ↓v77_64, ↓v77_65, ↓v77_66, ↓v77_69, ↓v77_70, ↓v77_71, ↓v77_74, ↓v77_75, ↓v77_76, ↓v77_77, ↓v77_80, ↓v77_81, ↓v77_82, ↓v77_85, ↓v77_86, ↓v77_87, ↓v77_90, ↓v77_91, ↓v77_92, ↓v77_95, ↓v77_96, ↓v77_99, ↓v77_102, ↓qI_c, ↓qL_c, ↓qR_c, ↓pA_o, ↓qC_i, ↓qC_r, ↓oA_s, ↓gI_0, ↓gI_1, ↓gI_2, ↓gI_3, ↓gI_4, ↓gI_5, ↓gI_6, ↓gI_7, ↓gI_8, ↓gI_9, ↓gI_10, ↓gR_0, ↓gR_1, ↓gR_2, ↓gR_3, ↓gR_4, ↓gR_5, ↓gR_6, ↓gR_7, ↓gR_8, ↓gR_9, ↓gR_10, ↓sL_0, ↓sL_1, ↓sL_2, ↓sL_3, ↓sL_4, ↓sL_5, ↓sL_6, ↓sL_7, ↓sL_8, ↓sL_9, ↓sL_10, ↓rrf_si, ↓rrf_sg, ↓shO_si, ↓shO_sg, ↓shO_sr, ↓shA_si, ↓shA_sg, ↓shA_sr, ↓pAs_0, ↓pAs_i, ↓pAs_r, stk_n, stk_i, stk_l, stk_r, List.nil_append, List.cons_append, true_and, and_true, true_or, or_true, Nat.zero_add, dp_s, Nat.reduceAdd, le8_0, le8_1, le8_2, le8_3, le8_4, le8_5, le8_6, le8_7, le8_8, Classical.not_not, aT40, aT41, aT42, aT44, aT54, aT58, aT59, rT54, rT58, rT59, reduceIte, Nat.reduceEqDiff, qn_42, qn_44, true_implies, not_true_eq_false, not_false_eq_true, false_implies, i10, ↓shO_of b1, z0, ↓rrf_of b3, ↓shA_of b5, t0C, ↓rrf_of b60]
    exact ⟨ib0, m0⟩
  | false =>
    have e1 : bI false = 0 := rfl
    by_cases hl : 3 ≤ tb.length
    · have e0 : n = 0 := by rw [← hn]; unfold adN; rw [if_pos (Or.inr hl)]
      subst e0
      have m0 := main _ oz z0 rfl
      rw [e1] at m0 ⊢
      refine vc_X 60 _ _ _ _ _ _ _ ?_
      simp only [↓v77_0, ↓v77_1, ↓v77_4, ↓v77_5, ↓v77_8, ↓v77_9, ↓v77_12, ↓v77_13, ↓v77_14, ↓v77_17, ↓v77_18, ↓v77_21, ↓v77_22, ↓v77_25, ↓v77_26, ↓v77_27, ↓v77_28, ↓v77_31, ↓v77_33, ↓v77_35, ↓v77_38, ↓v77_39, ↓v77_42, ↓v77_44, ↓v77_45, ↓v77_48, ↓v77_50, ↓v77_51, ↓v77_52, ↓v77_53, ↓v77_54, ↓v77_57, ↓v77_60, ↓v77_61, ↓v77_64, ↓v77_65, ↓v77_66, ↓v77_69, ↓v77_70, ↓v77_71, ↓v77_74, ↓v77_75, ↓v77_76, ↓v77_77, ↓v77_80, ↓v77_81, ↓v77_82, ↓v77_85, ↓v77_86, ↓v77_87, ↓v77_90, ↓v77_91, ↓v77_92, ↓v77_95, ↓v77_96, ↓v77_99, ↓v77_102, ↓qI_c, ↓qL_c, ↓qR_c, ↓pA_o, ↓qC_i, ↓qC_r, ↓oA_s, ↓gI_0, ↓gI_1, ↓gI_2, ↓gI_3, ↓gI_4, ↓gI_5, ↓gI_6, ↓gI_7, ↓gI_8, ↓gI_9, ↓gI_10, ↓gR_0, ↓gR_1, ↓gR_2, ↓gR_3, ↓gR_4, ↓gR_5, ↓gR_6, ↓gR_7, ↓gR_8, ↓gR_9, ↓gR_10, ↓sL_0, ↓sL_1, ↓sL_2, ↓sL_3, ↓sL_4, ↓sL_5, ↓sL_6, ↓sL_7, ↓sL_8, ↓sL_9, ↓sL_10, ↓rrf_si, ↓rrf_sg, ↓shO_si, ↓shO_sg, ↓shO_sr, ↓shA_si, ↓shA_sg, ↓shA_sr, ↓pAs_0, ↓pAs_i, ↓pAs_r, stk_n, stk_i, stk_l, stk_r, List.nil_append, List.cons_append, true_and, and_true, true_or, or_true, Nat.zero_add, dp_s, Nat.reduceAdd, le8_0, le8_1, le8_2, le8_3, le8_4, le8_5, le8_6, le8_7, le8_8, Classical.not_not, aT40, aT41, aT42, aT44, aT54, aT58, aT59, rT54, rT58, rT59, reduceIte, Nat.reduceEqDiff, qn_42, qn_44, true_implies, not_true_eq_false, not_false_eq_true, false_implies, i00, ↓shO_of b1, z0, g2, lt_T, T_3, nT (show tb.length < 2147483648 by omega), ↓rrf_of b3, ↓shA_of b5, t0C, ↓rrf_of b60]
      exact ⟨fun c => by omega, fun _ => ⟨ib0, m0⟩⟩
    · have e0 : n = tb.length := by rw [← hn]; unfold adN; rw [if_neg (by simp; omega)]
      subst e0
      have m0 := main M Of.rf_ g2 rfl
      rw [e1] at m0 ⊢
      have b6' : M.rf (x + 3) (nI tb.length).toNatClampNeg = some (x + 4 + 2 * im tb.length) := by rw [nC (by omega)]; exact b6 _ (by omega)
      refine vc_X 60 _ _ _ _ _ _ _ ?_
      simp only [↓v77_0, ↓v77_1, ↓v77_4, ↓v77_5, ↓v77_8, ↓v77_9, ↓v77_12, ↓v77_13, ↓v77_14, ↓v77_17, ↓v77_18, ↓v77_21, ↓v77_22, ↓v77_25, ↓v77_26, ↓v77_27, ↓v77_28, ↓v77_31, ↓v77_33, ↓v77_35, ↓v77_38, ↓v77_39, ↓v77_42, ↓v77_44, ↓v77_45, ↓v77_48, ↓v77_50, ↓v77_51, ↓v77_52, ↓v77_53, ↓v77_54, ↓v77_57, ↓v77_60, ↓v77_61, ↓v77_64, ↓v77_65, ↓v77_66, ↓v77_69, ↓v77_70, ↓v77_71, ↓v77_74, ↓v77_75, ↓v77_76, ↓v77_77, ↓v77_80, ↓v77_81, ↓v77_82, ↓v77_85, ↓v77_86, ↓v77_87, ↓v77_90, ↓v77_91, ↓v77_92, ↓v77_95, ↓v77_96, ↓v77_99, ↓v77_102, ↓qI_c, ↓qL_c, ↓qR_c, ↓pA_o, ↓qC_i, ↓qC_r, ↓oA_s, ↓gI_0, ↓gI_1, ↓gI_2, ↓gI_3, ↓gI_4, ↓gI_5, ↓gI_6, ↓gI_7, ↓gI_8, ↓gI_9, ↓gI_10, ↓gR_0, ↓gR_1, ↓gR_2, ↓gR_3, ↓gR_4, ↓gR_5, ↓gR_6, ↓gR_7, ↓gR_8, ↓gR_9, ↓gR_10, ↓sL_0, ↓sL_1, ↓sL_2, ↓sL_3, ↓sL_4, ↓sL_5, ↓sL_6, ↓sL_7, ↓sL_8, ↓sL_9, ↓sL_10, ↓rrf_si, ↓rrf_sg, ↓shO_si, ↓shO_sg, ↓shO_sr, ↓shA_si, ↓shA_sg, ↓shA_sr, ↓pAs_0, ↓pAs_i, ↓pAs_r, stk_n, stk_i, stk_l, stk_r, List.nil_append, List.cons_append, true_and, and_true, true_or, or_true, Nat.zero_add, dp_s, Nat.reduceAdd, le8_0, le8_1, le8_2, le8_3, le8_4, le8_5, le8_6, le8_7, le8_8, Classical.not_not, aT40, aT41, aT42, aT44, aT54, aT58, aT59, rT54, rT58, rT59, reduceIte, Nat.reduceEqDiff, qn_42, qn_44, true_implies, not_true_eq_false, not_false_eq_true, false_implies, i00, ↓shO_of b1, z0, g2, lt_T, T_3, nT (show tb.length < 2147483648 by omega), ↓rrf_of b3, ↓shA_of b5, t0C, ↓rrf_of b60, ↓rrf_of b6']
      exact ⟨fun _ => ⟨inB_n (by omega) (by omega), m0⟩, fun c => by omega⟩
theorem k34 {d : Nat} {M : Mm} {k : mQ} {x p f c N : Nat} {im : Nat → Nat} {ch sp : Nat → Option Nat} {tb : TbT} (h : IxC M x im ch tb) (hl : tb.length < 3) (hok : spOK sp) (hf : ¬ PX x f) (hc : ¬ PX x c) (hb : BC M f c N ((tbL sp).map nI)) (hp : p < 128) (hk : ∀ M', IxC M' x im ch (tb ++ [(p, sp)]) → Of (PX x) M M' → k none M') : XC (d + 4) 34 [.inr (some x), .inr (some f), .inl (nI p)] M k := by
  obtain ⟨⟨b1, b2, b3, b4, b5, b6, b7, b8, b9⟩, g1, g2, g3, g4⟩ := id h
  have b6' : M.rf (x + 3) (nI tb.length).toNatClampNeg = some (x + 4 + 2 * im tb.length) := by rw [nC (by omega)]; exact b6 _ (by omega)
  have hi := b7 tb.length (by omega)
  have hE := b9 _ hi
  have sf := hE.1
  unfold PX at hf hc
  refine xc ?_
  show X (d + 3) 34 0 [some (.inr (some x)), some (.inr (some f)), some (.inl (nI p))] [] M k
  refine vc_X 60 _ _ _ _ _ _ _ ?_
  simp only [↓v34_0, ↓v34_1, ↓v34_4, ↓v34_5, ↓v34_8, ↓v34_9, ↓v34_12, ↓v34_13, ↓v34_16, ↓v34_17, ↓v34_18, ↓v34_21, ↓v34_22, ↓v34_25, ↓v34_26, ↓v34_29, ↓v34_30, ↓v34_31, ↓v34_34, ↓v34_35, ↓v34_36, ↓v34_39, ↓v34_40, ↓v34_41, ↓v34_44, ↓qI_c, ↓qL_c, ↓qR_c, ↓pA_o, ↓qC_i, ↓qC_r, ↓oA_s, ↓gI_0, ↓gI_1, ↓gI_2, ↓gI_3, ↓gI_4, ↓gI_5, ↓gI_6, ↓gI_7, ↓gI_8, ↓gI_9, ↓gI_10, ↓gR_0, ↓gR_1, ↓gR_2, ↓gR_3, ↓gR_4, ↓gR_5, ↓gR_6, ↓gR_7, ↓gR_8, ↓gR_9, ↓gR_10, ↓sL_0, ↓sL_1, ↓sL_2, ↓sL_3, ↓sL_4, ↓sL_5, ↓sL_6, ↓sL_7, ↓sL_8, ↓sL_9, ↓sL_10, ↓rrf_si, ↓rrf_sg, ↓shO_si, ↓shO_sg, ↓shO_sr, ↓shA_si, ↓shA_sg, ↓shA_sr, ↓pAs_0, ↓pAs_i, ↓pAs_r, stk_n, stk_i, stk_l, stk_r, List.nil_append, List.cons_append, true_and, and_true, true_or, or_true, Nat.zero_add, dp_s, Nat.reduceAdd, le8_0, le8_1, le8_2, le8_3, le8_4, le8_5, le8_6, le8_7, le8_8, Classical.not_not, aT40, aT41, aT42, aT44, aT54, aT58, aT59, rT54, rT58, rT59, reduceIte, Nat.reduceEqDiff, qn_42, qn_44, true_implies, not_true_eq_false, not_false_eq_true, false_implies, ↓shO_of b1, g2, le_T, T_3, nT (show tb.length < 2147483648 by omega), ↓rrf_of b3, ↓shA_of b5, ↓rrf_of b6', ↓shO_of sf]
  refine ⟨fun c => by omega, fun _ => ⟨inB_n (by omega) (by omega), ?_⟩⟩
  refine k35 (by omega) (by omega) (by omega) (by omega) hok hE hb (fun M1 e1 o1 => ⟨rfl, ?_⟩)
  have c1 : M1.sh x = some (5, 0) := by rw [o1.1]; exact b1
  have c2 : M1.it x 2 = nI tb.length := by rw [o1.2.2.2.2.2 x (by simp; omega)]; exact g2
  have c3 : M1.rf x 1 = some (x + 3) := by rw [o1.2.2.2.2.1]; exact b3
  have c4 : M1.sh (x + 3) = some (54, 3) := by rw [o1.1]; exact b5
  have c5 : M1.rf (x + 3) (nI tb.length).toNatClampNeg = some (x + 4 + 2 * im tb.length) := by rw [o1.2.2.2.2.1]; exact b6'
  have c6 : (M1.si (x + 4 + 2 * im tb.length) 2 (nI p)).it x 2 = nI tb.length := by rw [si_it, if_neg (by omega)]; exact c2
  refine vc_X 60 _ _ _ _ _ _ _ ?_
  simp only [↓v34_0, ↓v34_1, ↓v34_4, ↓v34_5, ↓v34_8, ↓v34_9, ↓v34_12, ↓v34_13, ↓v34_16, ↓v34_17, ↓v34_18, ↓v34_21, ↓v34_22, ↓v34_25, ↓v34_26, ↓v34_29, ↓v34_30, ↓v34_31, ↓v34_34, ↓v34_35, ↓v34_36, ↓v34_39, ↓v34_40, ↓v34_41, ↓v34_44, ↓qI_c, ↓qL_c, ↓qR_c, ↓pA_o, ↓qC_i, ↓qC_r, ↓oA_s, ↓gI_0, ↓gI_1, ↓gI_2, ↓gI_3, ↓gI_4, ↓gI_5, ↓gI_6, ↓gI_7, ↓gI_8, ↓gI_9, ↓gI_10, ↓gR_0, ↓gR_1, ↓gR_2, ↓gR_3, ↓gR_4, ↓gR_5, ↓gR_6, ↓gR_7, ↓gR_8, ↓gR_9, ↓gR_10, ↓sL_0, ↓sL_1, ↓sL_2, ↓sL_3, ↓sL_4, ↓sL_5, ↓sL_6, ↓sL_7, ↓sL_8, ↓sL_9, ↓sL_10, ↓rrf_si, ↓rrf_sg, ↓shO_si, ↓shO_sg, ↓shO_sr, ↓shA_si, ↓shA_sg, ↓shA_sr, ↓pAs_0, ↓pAs_i, ↓pAs_r, stk_n, stk_i, stk_l, stk_r, List.nil_append, List.cons_append, true_and, and_true, true_or, or_true, Nat.zero_add, dp_s, Nat.reduceAdd, le8_0, le8_1, le8_2, le8_3, le8_4, le8_5, le8_6, le8_7, le8_8, Classical.not_not, aT40, aT41, aT42, aT44, aT54, aT58, aT59, rT54, rT58, rT59, reduceIte, Nat.reduceEqDiff, qn_42, qn_44, true_implies, not_true_eq_false, not_false_eq_true, false_implies, ↓shO_of c1, c2, ↓rrf_of c3, ↓shA_of c4, ↓rrf_of c5, ↓shO_of e1.1.1, c6, nI_1]
  refine ⟨inB_n (by omega) (by omega), ?_⟩
  have o2 : On [x, x + 4 + 2 * im tb.length] M1 ((M1.si (x + 4 + 2 * im tb.length) 2 (nI p)).si x 2 (nI (tb.length + 1))) := (On.rf_.put (by simp)).put (by simp)
  have oA : On [x, x + 4 + 2 * im tb.length, x + 5 + 2 * im tb.length] M ((M1.si (x + 4 + 2 * im tb.length) 2 (nI p)).si x 2 (nI (tb.length + 1))) := (o1.mono (by simp)).trans o2 (by simp)
  refine hk _ ⟨h.1.keep oA, g1.keep oA (by simp; omega) (by simp; omega), ?_, by simp; omega, fun t z hz => ?_⟩ (oA.of (fun y hy => by simp at hy; exact ⟨by omega, by omega⟩))
  · rw [si_it, if_pos ⟨rfl, rfl⟩]; simp
  · by_cases ht : t < tb.length
    · rw [List.getElem?_append_left ht] at hz
      have h1 := b7 t (by omega)
      have hne : im t ≠ im tb.length := fun e => by have := b8 t _ (by omega) (by omega) e; omega
      exact ⟨(g4 t z hz).1.keep oA (by simp; omega) (by simp; omega), (g4 t z hz).2⟩
    · rw [List.getElem?_append_right (by omega)] at hz
      have : t - tb.length < 1 := (List.getElem?_eq_some_iff.mp hz).1
      have ht2 : t = tb.length := by omega
      subst ht2
      rw [Nat.sub_self] at hz
      cases hz
      obtain ⟨w1, w2, w3, w4, w5⟩ := e1
      refine ⟨⟨w1.keep o2, fun j hj => by rw [o2.2.2.2.2.2 _ (by simp; omega)]; exact w2 j hj, w3, ?_, ?_⟩, hp⟩
      · rw [si_it, if_neg (by omega), si_it, if_neg (by omega)]; exact w4
      · rw [si_it, if_neg (by omega), si_it, if_pos ⟨rfl, rfl⟩]; rfl
