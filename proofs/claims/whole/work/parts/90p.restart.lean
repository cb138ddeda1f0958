/-! restart, recover -/
theorem c16d {d : Nat} {M : Mm} {k : mQ} {b : Nat} {D : DT} {G : Nat → RecT} {s0 : RecT} {s1 : Option RecT} (h : CpD M b D G) (r1 : G D.2.1 = s0) (r2 : D.2.2.map G = s1) (d1 : s0.1 % 2 = 0) (d2 : ∀ q, s1 = some q → q.1 % 2 = 1) (hk : ∀ a1, RcC M b G a1 → G a1 = latR s0 s1 → k (some (.inr (.inr (some a1)))) M) : XC (d + 1) 16 [.inr (some (b + 1))] M k := by
  obtain ⟨h1, h2, h3, h4, h5⟩ := h
  have hsl : SlC M (b + 1) D.2.1 (G D.2.1) (D.2.2.map (fun a => (a, G a))) := by
    refine ⟨h1.1, h2, h4.1, ?_, fun z hz => ?_⟩
    · show M.rf (b + 3) 1 = _
      rw [h3]
      cases D.2.2 <;> rfl
    · cases hd : D.2.2 with
      | none => rw [hd] at hz; cases hz
      | some a =>
        rw [hd] at hz
        cases hz
        exact (h5 a hd).1
  refine k16 hsl (fun c => hk _ h4 ?_) (fun z hz c => ?_)
  · rw [← r1, ← r2]
    cases hd : D.2.2 with
    | none => rfl
    | some a1 =>
      rw [hd] at c
      have c : decide ((G D.2.1).1 ≤ (G a1).1) = false := c
      have c := of_decide_eq_false c
      show G D.2.1 = if (G D.2.1).1 < (G a1).1 then G a1 else G D.2.1
      rw [if_neg (by omega)]
  · cases hd : D.2.2 with
    | none => rw [hd] at hz; cases hz
    | some a1 =>
      rw [hd] at hz c r2
      cases hz
      have c : decide ((G D.2.1).1 ≤ (G a1).1) = true := c
      have c := of_decide_eq_true c
      refine hk a1 (h5 a1 hd) ?_
      rw [← r1, ← r2]
      show G a1 = if (G D.2.1).1 < (G a1).1 then G a1 else G D.2.1
      have e0 : (G D.2.1).1 % 2 = 0 := by rw [r1]; exact d1
      have e1 : (G a1).1 % 2 = 1 := d2 _ (by rw [← r2]; rfl)
      rw [if_pos (by omega)]
theorem c15 {d : Nat} {M : Mm} {k : mQ} {b : Nat} {s : Ms} {D : DT} {pm im : Nat → Nat} {ch : Nat → Option Nat} {tb : TbT} {G : Nat → RecT} (hB : CpB M b) (hD : CpD M b D G) (hQ : QuC M (b + 7) pm s.md []) (hC : CaC M (b + 249) s.C.1 s.C.2) (hC2 : s.C.2 + 1000 < 50000000) (hL : La M (b + 251) (b + 252)) (hI : IxC M (b + 255) im ch tb) (hT : CpT M b s.T) (hlo : ∀ h, h < 513 → M.it (b + 278) h = bI (s.lo h)) (hmu : M.it b 17 = nI s.mu) (hm : s.mu ≤ 512) (off0 : Bool) (hoff : M.it b 18 = bI off0)
    (rdk : ∀ bl i, bl < 128 → i < 16 → D.1 (16 * bl + i) = s.dk bl i) (r1 : G D.2.1 = s.s0) (r2 : D.2.2.map G = s.s1) (d1 : s.s0.1 % 2 = 0) (d2 : ∀ q, s.s1 = some q → q.1 % 2 = 1) (w2 : D0I s.dk [] s.g0 s.S0) (w3 : GhI [] s.R s.g0 s.S0) (wb : ∀ b i, s.dk b i < 256)
    (hk : ∀ M' a1, CP M' b D (pm, s.md, []) (rcC s s.R.2.2.2.2 s.C) (s.R.2.2.2.1, none) (im, nn, s.g0) s.T ((fun _ => none), s.lo) (G, a1, none, s.R.2.2.1, s.mu, false) → G a1 = s.R → Of (fun y => b ≤ y ∧ y < b + 279) M M' → k none M') : XC (d + 6) 15 [.inr (some b)] M k := by
  have hDs := hD.1.1.1
  refine xc ?_
  show X (d + 5) 15 0 [some (.inr (some b)), none, none] [] M k
  refine vc_X 20 _ _ _ _ _ _ _ ?_
  simp only [↓v15_0, ↓v15_1, ↓v15_2, ↓v15_5, ↓v15_8, ↓v15_11, ↓v15_12, ↓v15_13, ↓v15_16, ↓v15_17, ↓v15_18, ↓v15_21, ↓v15_24, ↓v15_27, ↓v15_28, ↓v15_31, ↓v15_32, ↓v15_35, ↓v15_38, ↓v15_39, ↓v15_42, ↓v15_43, ↓v15_46, ↓v15_47, ↓v15_50, ↓v15_53, ↓v15_54, ↓v15_55, ↓v15_56, ↓v15_57, ↓v15_60, ↓v15_63, ↓v15_66, ↓v15_67, ↓v15_70, ↓v15_71, ↓v15_74, ↓v15_75, ↓v15_76, ↓v15_77, ↓v15_80, ↓v15_81, ↓v15_82, ↓v15_83, ↓v15_86, ↓v15_89, ↓v15_90, ↓v15_93, ↓v15_94, ↓v15_97, ↓v15_98, ↓v15_101, ↓v15_104, ↓v15_107, ↓v15_108, ↓v15_109, ↓v15_112, ↓qI_c, ↓qL_c, ↓qR_c, ↓pA_o, ↓qC_i, ↓qC_r, ↓oA_s, ↓gI_0, ↓gI_1, ↓gI_2, ↓gI_3, ↓gI_4, ↓gI_5, ↓gI_6, ↓gI_7, ↓gI_8, ↓gI_9, ↓gI_10, ↓gR_0, ↓gR_1, ↓gR_2, ↓gR_3, ↓gR_4, ↓gR_5, ↓gR_6, ↓gR_7, ↓gR_8, ↓gR_9, ↓gR_10, ↓sL_0, ↓sL_1, ↓sL_2, ↓sL_3, ↓sL_4, ↓sL_5, ↓sL_6, ↓sL_7, ↓sL_8, ↓sL_9, ↓sL_10, ↓rrf_si, ↓rrf_sg, ↓shO_si, ↓shO_sg, ↓shO_sr, ↓shA_si, ↓shA_sg, ↓shA_sr, ↓pAs_0, ↓pAs_i, ↓pAs_r, stk_n, stk_i, stk_l, stk_r, List.nil_append, List.cons_append, true_and, and_true, true_or, or_true, Nat.zero_add, dp_s, Nat.reduceAdd, le8_0, le8_1, le8_2, le8_3, le8_4, le8_5, le8_6, le8_7, le8_8, Classical.not_not, aT40, aT41, aT42, aT44, aT54, aT58, aT59, rT54, rT58, rT59, reduceIte, Nat.reduceEqDiff, qn_42, qn_44, true_implies, not_true_eq_false, not_false_eq_true, false_implies, ↓shO_of hB.1.1, ↓rrf_of hB.1.2.1, ↓shO_of hDs]
  refine c16d hD r1 r2 d1 d2 (fun a1 rc e1 => ⟨_, rfl, ?_⟩)
  have e1 : G a1 = s.R := e1
  obtain ⟨ra, rb, rd⟩ := rc
  rw [e1] at ra
  have rb' : a1 = b + 4 ∨ b + 303 ≤ a1 := rb
  generalize hM1 : M.sr b 14 (some a1) = M1
  have o1 : Of (· = b) M M1 := by rw [← hM1]; exact (Of.rf_ : Of (· = b) M M).r rfl
  have f14 : M1.rf b 14 = some a1 := by rw [← hM1, sr_rf, if_pos ⟨rfl, rfl⟩]
  have f3 : M1.rf b 3 = some (b + 251) := by rw [← hM1, sr_rf, if_neg (by simp)]; exact hB.1.2.2.2.2.1
  have n1 : a1 ≠ b := by omega
  have hit : (M1.si b 15 (-1)).it a1 2 = nI s.R.2.2.1 := by rw [si_it, if_neg (fun q => n1 q.1), (o1.2.2.2 a1 n1 2).1]; exact ra.2.2.2.1
  generalize hM2 : (M1.si b 15 (-1)).si b 16 (nI s.R.2.2.1) = M2
  have o2 : Of (· = b) M M2 := by rw [← hM2]; exact (o1.i rfl).i rfl
  have g2 : Ag (fun y => ¬ y = b) M M2 := o2.ag (fun _ h => h)
  have z2 : M2.sz = M.sz := o2.2.1
  have rf2 : ∀ j, j ≠ 14 → M2.rf b j = M.rf b j := by
    intro j hj
    rw [← hM2]
    show M1.rf b j = _
    rw [← hM1, sr_rf, if_neg (fun q => hj q.2)]
  have rf14 : M2.rf b 14 = some a1 := by rw [← hM2]; exact f14
  have it15 : M2.it b 15 = -1 := by rw [← hM2, si_it, if_neg (by simp), si_it, if_pos ⟨rfl, rfl⟩]
  have it16 : M2.it b 16 = nI s.R.2.2.1 := by rw [← hM2, si_it, if_pos ⟨rfl, rfl⟩]
  have itj : ∀ j, j ≠ 15 → j ≠ 16 → M2.it b j = M.it b j := by
    intro j h1 h2
    rw [← hM2, si_it, if_neg (fun q => h2 q.2), si_it, if_neg (fun q => h1 q.2), ← hM1]
    rfl
  refine vc_X 40 _ _ _ _ _ _ _ ?_
  simp only [↓v15_0, ↓v15_1, ↓v15_2, ↓v15_5, ↓v15_8, ↓v15_11, ↓v15_12, ↓v15_13, ↓v15_16, ↓v15_17, ↓v15_18, ↓v15_21, ↓v15_24, ↓v15_27, ↓v15_28, ↓v15_31, ↓v15_32, ↓v15_35, ↓v15_38, ↓v15_39, ↓v15_42, ↓v15_43, ↓v15_46, ↓v15_47, ↓v15_50, ↓v15_53, ↓v15_54, ↓v15_55, ↓v15_56, ↓v15_57, ↓v15_60, ↓v15_63, ↓v15_66, ↓v15_67, ↓v15_70, ↓v15_71, ↓v15_74, ↓v15_75, ↓v15_76, ↓v15_77, ↓v15_80, ↓v15_81, ↓v15_82, ↓v15_83, ↓v15_86, ↓v15_89, ↓v15_90, ↓v15_93, ↓v15_94, ↓v15_97, ↓v15_98, ↓v15_101, ↓v15_104, ↓v15_107, ↓v15_108, ↓v15_109, ↓v15_112, ↓qI_c, ↓qL_c, ↓qR_c, ↓pA_o, ↓qC_i, ↓qC_r, ↓oA_s, ↓gI_0, ↓gI_1, ↓gI_2, ↓gI_3, ↓gI_4, ↓gI_5, ↓gI_6, ↓gI_7, ↓gI_8, ↓gI_9, ↓gI_10, ↓gR_0, ↓gR_1, ↓gR_2, ↓gR_3, ↓gR_4, ↓gR_5, ↓gR_6, ↓gR_7, ↓gR_8, ↓gR_9, ↓gR_10, ↓sL_0, ↓sL_1, ↓sL_2, ↓sL_3, ↓sL_4, ↓sL_5, ↓sL_6, ↓sL_7, ↓sL_8, ↓sL_9, ↓sL_10, ↓rrf_si, ↓rrf_sg, ↓shO_si, ↓shO_sg, ↓shO_sr, ↓shA_si, ↓shA_sg, ↓shA_sr, ↓pAs_0, ↓pAs_i, ↓pAs_r, stk_n, stk_i, stk_l, stk_r, List.nil_append, List.cons_append, true_and, and_true, true_or, or_true, Nat.zero_add, dp_s, Nat.reduceAdd, le8_0, le8_1, le8_2, le8_3, le8_4, le8_5, le8_6, le8_7, le8_8, Classical.not_not, aT40, aT41, aT42, aT44, aT54, aT58, aT59, rT54, rT58, rT59, reduceIte, Nat.reduceEqDiff, qn_42, qn_44, true_implies, not_true_eq_false, not_false_eq_true, false_implies, ↓shO_of hB.1.1, ↓shO_of ra.1.1, ra.2.2.2.1, hM1, ↓rrf_of f14, ↓rrf_of f3, ↓shO_of hL.1, hit, hM2]
  have hB2 : CpB M2 b := hB.sr o2.1 o2.2.1 (fun x hx j hj => by
    by_cases c : x = b
    · rw [c]; exact rf2 j hj
    · exact (o2.2.2.2 x c j).2.2)
  have ra2 : ReC M2 a1 s.R := ra.ag g2 (by omega) (by omega) (by omega)
  have hL2 : La M2 (b + 251) (b + 252) := hL.ag g2 (by omega) (by omega)
  refine k17 hL2 ra2 (by omega) (by omega) (by omega) (by omega) (by omega) (by omega) (fun M3 l3 o3 => ⟨rfl, ?_⟩)
  have hB3 : CpB M3 b := hB2.sr o3.1 o3.2.1 (fun x _ j _ => by rw [o3.2.2.2.2.1])
  refine vc_X 40 _ _ _ _ _ _ _ ?_
  simp only [↓v15_0, ↓v15_1, ↓v15_2, ↓v15_5, ↓v15_8, ↓v15_11, ↓v15_12, ↓v15_13, ↓v15_16, ↓v15_17, ↓v15_18, ↓v15_21, ↓v15_24, ↓v15_27, ↓v15_28, ↓v15_31, ↓v15_32, ↓v15_35, ↓v15_38, ↓v15_39, ↓v15_42, ↓v15_43, ↓v15_46, ↓v15_47, ↓v15_50, ↓v15_53, ↓v15_54, ↓v15_55, ↓v15_56, ↓v15_57, ↓v15_60, ↓v15_63, ↓v15_66, ↓v15_67, ↓v15_70, ↓v15_71, ↓v15_74, ↓v15_75, ↓v15_76, ↓v15_77, ↓v15_80, ↓v15_81, ↓v15_82, ↓v15_83, ↓v15_86, ↓v15_89, ↓v15_90, ↓v15_93, ↓v15_94, ↓v15_97, ↓v15_98, ↓v15_101, ↓v15_104, ↓v15_107, ↓v15_108, ↓v15_109, ↓v15_112, ↓qI_c, ↓qL_c, ↓qR_c, ↓pA_o, ↓qC_i, ↓qC_r, ↓oA_s, ↓gI_0, ↓gI_1, ↓gI_2, ↓gI_3, ↓gI_4, ↓gI_5, ↓gI_6, ↓gI_7, ↓gI_8, ↓gI_9, ↓gI_10, ↓gR_0, ↓gR_1, ↓gR_2, ↓gR_3, ↓gR_4, ↓gR_5, ↓gR_6, ↓gR_7, ↓gR_8, ↓gR_9, ↓gR_10, ↓sL_0, ↓sL_1, ↓sL_2, ↓sL_3, ↓sL_4, ↓sL_5, ↓sL_6, ↓sL_7, ↓sL_8, ↓sL_9, ↓sL_10, ↓rrf_si, ↓rrf_sg, ↓shO_si, ↓shO_sg, ↓shO_sr, ↓shA_si, ↓shA_sg, ↓shA_sr, ↓pAs_0, ↓pAs_i, ↓pAs_r, stk_n, stk_i, stk_l, stk_r, List.nil_append, List.cons_append, true_and, and_true, true_or, or_true, Nat.zero_add, dp_s, Nat.reduceAdd, le8_0, le8_1, le8_2, le8_3, le8_4, le8_5, le8_6, le8_7, le8_8, Classical.not_not, aT40, aT41, aT42, aT44, aT54, aT58, aT59, rT54, rT58, rT59, reduceIte, Nat.reduceEqDiff, qn_42, qn_44, true_implies, not_true_eq_false, not_false_eq_true, false_implies, ↓shO_of hB3.1.1, ↓rrf_of hB3.2.1.2.2.2.2.2.2.1]
  refine k12 hB3.2.2.1.2.2.1 (by omega) ⟨rfl, ?_⟩
  generalize hM4 : M3.fl (b + 277) 8 (-1) = M4
  have o4 : On [b + 277] M3 M4 := by
    rw [← hM4]
    refine ⟨rfl, rfl, rfl, rfl, rfl, fun x hx j => ?_⟩
    rw [fl_it, if_neg (fun q => hx (by simp [q.1]))]
  have hB4 : CpB M4 b := hB3.sr o4.1 o4.2.1 (fun x _ j _ => by rw [o4.2.2.2.2.1])
  have o24 : On [b + 251, b + 252, b + 277] M2 M4 := (o3.mono (fun x hx => by simp at hx ⊢; omega)).trans o4 (fun x hx => by simp at hx ⊢; omega)
  have g4 : Ag (fun y => y ≠ b ∧ y ≠ b + 251 ∧ y ≠ b + 252 ∧ y ≠ b + 277) M M4 := (g2.mono (R := fun y => y ≠ b ∧ y ≠ b + 251 ∧ y ≠ b + 252 ∧ y ≠ b + 277) (fun x hx => hx.1)).trans ((o24.of (P := fun y => y = b + 251 ∨ y = b + 252 ∨ y = b + 277) (fun x hx => by simpa using hx)).ag (R := fun y => ¬ (y = b + 251 ∨ y = b + 252 ∨ y = b + 277)) (fun _ h => h)) (fun x hx => by omega)
  have z4 : M4.sz = M.sz := by rw [o24.2.1, z2]
  have hI4 : IxC M4 (b + 255) im ch tb := hI.ag g4 (fun y hy => by unfold PX at hy; omega)
  refine vc_X 40 _ _ _ _ _ _ _ ?_
  simp only [↓v15_0, ↓v15_1, ↓v15_2, ↓v15_5, ↓v15_8, ↓v15_11, ↓v15_12, ↓v15_13, ↓v15_16, ↓v15_17, ↓v15_18, ↓v15_21, ↓v15_24, ↓v15_27, ↓v15_28, ↓v15_31, ↓v15_32, ↓v15_35, ↓v15_38, ↓v15_39, ↓v15_42, ↓v15_43, ↓v15_46, ↓v15_47, ↓v15_50, ↓v15_53, ↓v15_54, ↓v15_55, ↓v15_56, ↓v15_57, ↓v15_60, ↓v15_63, ↓v15_66, ↓v15_67, ↓v15_70, ↓v15_71, ↓v15_74, ↓v15_75, ↓v15_76, ↓v15_77, ↓v15_80, ↓v15_81, ↓v15_82, ↓v15_83, ↓v15_86, ↓v15_89, ↓v15_90, ↓v15_93, ↓v15_94, ↓v15_97, ↓v15_98, ↓v15_101, ↓v15_104, ↓v15_107, ↓v15_108, ↓v15_109, ↓v15_112, ↓qI_c, ↓qL_c, ↓qR_c, ↓pA_o, ↓qC_i, ↓qC_r, ↓oA_s, ↓gI_0, ↓gI_1, ↓gI_2, ↓gI_3, ↓gI_4, ↓gI_5, ↓gI_6, ↓gI_7, ↓gI_8, ↓gI_9, ↓gI_10, ↓gR_0, ↓gR_1, ↓gR_2, ↓gR_3, ↓gR_4, ↓gR_5, ↓gR_6, ↓gR_7, ↓gR_8, ↓gR_9, ↓gR_10, ↓sL_0, ↓sL_1, ↓sL_2, ↓sL_3, ↓sL_4, ↓sL_5, ↓sL_6, ↓sL_7, ↓sL_8, ↓sL_9, ↓sL_10, ↓rrf_si, ↓rrf_sg, ↓shO_si, ↓shO_sg, ↓shO_sr, ↓shA_si, ↓shA_sg, ↓shA_sr, ↓pAs_0, ↓pAs_i, ↓pAs_r, stk_n, stk_i, stk_l, stk_r, List.nil_append, List.cons_append, true_and, and_true, true_or, or_true, Nat.zero_add, dp_s, Nat.reduceAdd, le8_0, le8_1, le8_2, le8_3, le8_4, le8_5, le8_6, le8_7, le8_8, Classical.not_not, aT40, aT41, aT42, aT44, aT54, aT58, aT59, rT54, rT58, rT59, reduceIte, Nat.reduceEqDiff, qn_42, qn_44, true_implies, not_true_eq_false, not_false_eq_true, false_implies, ↓shO_of hB4.1.1, ↓rrf_of hB4.1.2.2.2.2.2.2, ↓shO_of hI4.1.1]
  refine k19 hI4 (fun M5 i5 o5 => ⟨rfl, ?_⟩)
  have hB5 : CpB M5 b := hB4.sr o5.1 o5.2.1 (fun x _ j _ => by rw [o5.2.2.2.2.1])
  have g5 : Ag (fun y => y ≠ b ∧ y ≠ b + 251 ∧ y ≠ b + 252 ∧ y ≠ b + 277 ∧ ¬ PX (b + 255) y) M M5 := (g4.mono (R := fun y => y ≠ b ∧ y ≠ b + 251 ∧ y ≠ b + 252 ∧ y ≠ b + 277 ∧ ¬ PX (b + 255) y) (fun x hx => ⟨hx.1, hx.2.1, hx.2.2.1, hx.2.2.2.1⟩)).trans ((o5.of (P := fun y => PX (b + 255) y) (fun x hx => by simp at hx; unfold PX; omega)).ag (R := fun y => ¬ PX (b + 255) y) (fun _ h => h)) (fun x hx => hx.2.2.2.2)
  have z5 : M5.sz = M.sz := by rw [o5.2.1, z4]
  have bfld : ∀ j, M5.it b j = M2.it b j := fun j => by rw [o5.2.2.2.2.2 b (by simp; omega), o24.2.2.2.2.2 b (by simp)]
  have rc5 : RcC M5 b G a1 := ⟨by rw [e1]; exact ra.ag g5 (by unfold PX; omega) (by unfold PX; omega) (by unfold PX; omega), rb, by omega⟩
  have h5 : CP M5 b D (pm, s.md, []) s.C (s.R.2.2.2.1, none) (im, nn, []) s.T ((fun _ => none), s.lo) (G, a1, none, s.R.2.2.1, s.mu, off0) := by
    refine ⟨hB5, hD.ag g5 (fun x hx => by unfold PX; omega) (by omega), ⟨hQ.ag g5 (fun x hx => by unfold PQ at hx; unfold PX; omega), fun j y a2 hj => by simp at hj⟩, ⟨hC.ag g5 (by unfold PX; omega) (by unfold PX; omega), by omega⟩, ?_, i5, hT.ag g5 (fun x hx => by unfold PX; omega), ⟨fun e he => ⟨?_, fun n hn => by cases hn⟩, fun j hj => ?_⟩, ?_, ?_, ?_, ?_, ?_, ?_, ?_, hm⟩
    · have o35 : On [b + 277, b + 255, b + 255 + 1, b + 255 + 2] M3 M5 := (o4.mono (fun x hx => by simp at hx ⊢; omega)).trans o5 (fun x hx => by simp at hx ⊢; omega)
      exact l3.ag (P := fun y => y = b + 251 ∨ y = b + 252) ((o35.of (P := fun y => y = b + 277 ∨ PX (b + 255) y) (fun x hx => by simp at hx; unfold PX; omega)).ag (fun x hx hP => by unfold PX at hP; omega)) (by omega) (by omega)
    · rw [o5.2.2.2.2.2 (b + 277) (by simp), ← hM4, fl_it, if_pos ⟨rfl, he⟩]
      rfl
    · rw [g5.it (by unfold PX; omega)]
      exact hlo j hj
    · rw [o5.2.2.2.2.1, o24.2.2.2.2.1]; exact rf14
    · exact rc5
    · rw [bfld]; exact it15
    · rw [bfld]; exact it16
    · rw [bfld, itj 17 (by omega) (by omega)]; exact hmu
    · rw [bfld, itj 18 (by omega) (by omega)]; exact hoff
    · have := ra.2.2.2.2.2.2.2.2.2
      exact this
  have oA5 : Of (fun y => b ≤ y ∧ y < b + 279) M M5 := ((o2.mono (P := fun y => b ≤ y ∧ y < b + 279) (fun x hx => by rw [hx]; omega)).trans (o24.of (P := fun y => b ≤ y ∧ y < b + 279) (fun x hx => by simp at hx; omega)) (fun _ h => h)).trans (o5.of (P := fun y => b ≤ y ∧ y < b + 279) (fun x hx => by simp at hx; omega)) (fun _ h => h)
  have hRW0 : RW pm G [] [] := ⟨rfl, fun k x w hx => by simp at hx⟩
  have hN0 : NbI s.md [] := ⟨List.Pairwise.nil, fun x hx => by cases hx⟩
  have hB0 : BtI s.dk [] := ⟨wb, fun w hw => by cases hw⟩
  have ok0 : okW ([] : List WT) := fun k x hx => by simp at hx
  have hvw : vw s.dk [] = s.dk := rfl
  have htl : s.g0.length ≤ 3 := w3.1.1.2.2.1
  have htab : s.R.2.2.2.2 = s.g0.map Prod.fst := w3.1.2.symm
  have lop : ∀ (l : TbT) (t : Nat) (M6 : Mm) (Cc : List Nat × Nat) (z2 : Option mL), s.g0.drop t = l → t + l.length = s.g0.length → CP M6 b D (pm, s.md, []) Cc (s.R.2.2.2.1, none) (im, nn, s.g0.take t) s.T ((fun _ => none), s.lo) (G, a1, none, s.R.2.2.1, s.mu, off0) → Cc.2 + 100 * (l.length + 1) < 50000000 → Of (fun y => b ≤ y ∧ y < b + 279) M M6 → (∀ M', CP M' b D (pm, s.md, []) (rcC s (l.map Prod.fst) Cc) (s.R.2.2.2.1, none) (im, nn, s.g0) s.T ((fun _ => none), s.lo) (G, a1, none, s.R.2.2.1, s.mu, off0) → Of (fun y => b ≤ y ∧ y < b + 279) M M' → k none (M'.si b 18 0)) → X (d + 5) 15 55 [some (.inr (some b)), some (.inl (nI t)), z2] [] M6 k := by
    intro l
    induction l with
    | nil =>
      intro t M6 Cc z2 hd htl2 h6 hC6 o6 hk2
      have e : t = s.g0.length := by simpa using htl2
      subst e
      rw [List.take_length] at h6
      obtain ⟨rc6, _, _⟩ := h6.2.2.2.2.2.2.2.2.2.1
      have rc6 : ReC M6 a1 (G a1) := rc6
      rw [e1] at rc6
      have r14 := h6.2.2.2.2.2.2.2.2.1
      have r14 : M6.rf b 14 = some a1 := r14
      refine vc_X 20 _ _ _ _ _ _ _ ?_
      simp only [↓v15_0, ↓v15_1, ↓v15_2, ↓v15_5, ↓v15_8, ↓v15_11, ↓v15_12, ↓v15_13, ↓v15_16, ↓v15_17, ↓v15_18, ↓v15_21, ↓v15_24, ↓v15_27, ↓v15_28, ↓v15_31, ↓v15_32, ↓v15_35, ↓v15_38, ↓v15_39, ↓v15_42, ↓v15_43, ↓v15_46, ↓v15_47, ↓v15_50, ↓v15_53, ↓v15_54, ↓v15_55, ↓v15_56, ↓v15_57, ↓v15_60, ↓v15_63, ↓v15_66, ↓v15_67, ↓v15_70, ↓v15_71, ↓v15_74, ↓v15_75, ↓v15_76, ↓v15_77, ↓v15_80, ↓v15_81, ↓v15_82, ↓v15_83, ↓v15_86, ↓v15_89, ↓v15_90, ↓v15_93, ↓v15_94, ↓v15_97, ↓v15_98, ↓v15_101, ↓v15_104, ↓v15_107, ↓v15_108, ↓v15_109, ↓v15_112, ↓qI_c, ↓qL_c, ↓qR_c, ↓pA_o, ↓qC_i, ↓qC_r, ↓oA_s, ↓gI_0, ↓gI_1, ↓gI_2, ↓gI_3, ↓gI_4, ↓gI_5, ↓gI_6, ↓gI_7, ↓gI_8, ↓gI_9, ↓gI_10, ↓gR_0, ↓gR_1, ↓gR_2, ↓gR_3, ↓gR_4, ↓gR_5, ↓gR_6, ↓gR_7, ↓gR_8, ↓gR_9, ↓gR_10, ↓sL_0, ↓sL_1, ↓sL_2, ↓sL_3, ↓sL_4, ↓sL_5, ↓sL_6, ↓sL_7, ↓sL_8, ↓sL_9, ↓sL_10, ↓rrf_si, ↓rrf_sg, ↓shO_si, ↓shO_sg, ↓shO_sr, ↓shA_si, ↓shA_sg, ↓shA_sr, ↓pAs_0, ↓pAs_i, ↓pAs_r, stk_n, stk_i, stk_l, stk_r, List.nil_append, List.cons_append, true_and, and_true, true_or, or_true, Nat.zero_add, dp_s, Nat.reduceAdd, le8_0, le8_1, le8_2, le8_3, le8_4, le8_5, le8_6, le8_7, le8_8, Classical.not_not, aT40, aT41, aT42, aT44, aT54, aT58, aT59, rT54, rT58, rT59, reduceIte, Nat.reduceEqDiff, qn_42, qn_44, true_implies, not_true_eq_false, not_false_eq_true, false_implies, ↓shO_of h6.1.1.1, ↓rrf_of r14, ↓shO_of rc6.1.1]
      refine k20 rc6 ⟨_, rfl, ?_⟩
      rw [htab, List.length_map]
      refine vc_X 20 _ _ _ _ _ _ _ ?_
      simp only [↓v15_0, ↓v15_1, ↓v15_2, ↓v15_5, ↓v15_8, ↓v15_11, ↓v15_12, ↓v15_13, ↓v15_16, ↓v15_17, ↓v15_18, ↓v15_21, ↓v15_24, ↓v15_27, ↓v15_28, ↓v15_31, ↓v15_32, ↓v15_35, ↓v15_38, ↓v15_39, ↓v15_42, ↓v15_43, ↓v15_46, ↓v15_47, ↓v15_50, ↓v15_53, ↓v15_54, ↓v15_55, ↓v15_56, ↓v15_57, ↓v15_60, ↓v15_63, ↓v15_66, ↓v15_67, ↓v15_70, ↓v15_71, ↓v15_74, ↓v15_75, ↓v15_76, ↓v15_77, ↓v15_80, ↓v15_81, ↓v15_82, ↓v15_83, ↓v15_86, ↓v15_89, ↓v15_90, ↓v15_93, ↓v15_94, ↓v15_97, ↓v15_98, ↓v15_101, ↓v15_104, ↓v15_107, ↓v15_108, ↓v15_109, ↓v15_112, ↓qI_c, ↓qL_c, ↓qR_c, ↓pA_o, ↓qC_i, ↓qC_r, ↓oA_s, ↓gI_0, ↓gI_1, ↓gI_2, ↓gI_3, ↓gI_4, ↓gI_5, ↓gI_6, ↓gI_7, ↓gI_8, ↓gI_9, ↓gI_10, ↓gR_0, ↓gR_1, ↓gR_2, ↓gR_3, ↓gR_4, ↓gR_5, ↓gR_6, ↓gR_7, ↓gR_8, ↓gR_9, ↓gR_10, ↓sL_0, ↓sL_1, ↓sL_2, ↓sL_3, ↓sL_4, ↓sL_5, ↓sL_6, ↓sL_7, ↓sL_8, ↓sL_9, ↓sL_10, ↓rrf_si, ↓rrf_sg, ↓shO_si, ↓shO_sg, ↓shO_sr, ↓shA_si, ↓shA_sg, ↓shA_sr, ↓pAs_0, ↓pAs_i, ↓pAs_r, stk_n, stk_i, stk_l, stk_r, List.nil_append, List.cons_append, true_and, and_true, true_or, or_true, Nat.zero_add, dp_s, Nat.reduceAdd, le8_0, le8_1, le8_2, le8_3, le8_4, le8_5, le8_6, le8_7, le8_8, Classical.not_not, aT40, aT41, aT42, aT44, aT54, aT58, aT59, rT54, rT58, rT59, reduceIte, Nat.reduceEqDiff, qn_42, qn_44, true_implies, not_true_eq_false, not_false_eq_true, false_implies, le_T, Int.le_refl, ↓shO_of h6.1.1.1]
      exact hk2 M6 h6 o6
    | cons z l ih =>
      intro t M6 Cc z2 hd htl2 h6 hC6 o6 hk2
      have ht2 : t < s.g0.length := by rw [List.length_cons] at htl2; omega
      have hzt : s.g0[t]? = some z := by
        have : (s.g0.drop t)[0]? = some z := by rw [hd]; rfl
        rw [List.getElem?_drop] at this
        exact this
      have hd2 : s.g0.drop (t + 1) = l := by
        have : (s.g0.drop t).drop 1 = l := by rw [hd]; rfl
        rw [List.drop_drop] at this
        exact this
      have hzm := List.mem_of_getElem? hzt
      obtain ⟨wz1, wz2, wz3, wz4⟩ := w3.1.1.2.2.2.1 z hzm
      have hLz : Lv nn s.g0 z.1 := Or.inr ⟨z, hzm, rfl⟩
      have wz5 := w3.1.1.2.2.2.2.2.1 z.1 hLz
      have wz6 := w3.1.1.1 (z.1 / 16) (by omega)
      have hdk : ∀ q, z.1 ≤ q → q < z.1 + nbS s.S0 z.1 → s.dk q = s.S0 q := fun q q1 q2 => (w2 q ⟨z.1, hLz, q1, q2⟩).1
      have hnp := nbS_pos s.S0 z.1
      have eln : lnS s.dk z.1 = (tbL z.2).length := by
        unfold lnS at wz3 ⊢
        rw [hdk z.1 (Nat.le_refl _) (by omega)]
        exact wz3
      have enS : nbS s.S0 z.1 = ((tbL z.2).length + 23) / 16 := by unfold nbS; unfold lnS at wz3; rw [wz3]
      have ect : ctS s.dk z.1 (tbL z.2).length = tbL z.2 := by
        rw [ctS_congr (S := s.S0), wz4]
        intro q q1 q2
        exact hdk q q1 (by omega)
      have hlA : lnA D.1 [] z.1 = (tbL z.2).length := by rw [hRW0.ln_ hN0 hB0 rdk wz2, hvw]; exact eln
      have hnA : nbA D.1 [] z.1 = nbS s.dk z.1 := by rw [hRW0.nb_ hN0 hB0 rdk wz2, hvw]
      obtain ⟨rc6, _, _⟩ := h6.2.2.2.2.2.2.2.2.2.1
      have rc6 : ReC M6 a1 (G a1) := rc6
      rw [e1] at rc6
      have r14 : M6.rf b 14 = some a1 := h6.2.2.2.2.2.2.2.2.1
      have htz : s.R.2.2.2.2[t]? = some z.1 := by rw [htab, List.getElem?_map, hzt]; rfl
      refine vc_X 20 _ _ _ _ _ _ _ ?_
      simp only [↓v15_0, ↓v15_1, ↓v15_2, ↓v15_5, ↓v15_8, ↓v15_11, ↓v15_12, ↓v15_13, ↓v15_16, ↓v15_17, ↓v15_18, ↓v15_21, ↓v15_24, ↓v15_27, ↓v15_28, ↓v15_31, ↓v15_32, ↓v15_35, ↓v15_38, ↓v15_39, ↓v15_42, ↓v15_43, ↓v15_46, ↓v15_47, ↓v15_50, ↓v15_53, ↓v15_54, ↓v15_55, ↓v15_56, ↓v15_57, ↓v15_60, ↓v15_63, ↓v15_66, ↓v15_67, ↓v15_70, ↓v15_71, ↓v15_74, ↓v15_75, ↓v15_76, ↓v15_77, ↓v15_80, ↓v15_81, ↓v15_82, ↓v15_83, ↓v15_86, ↓v15_89, ↓v15_90, ↓v15_93, ↓v15_94, ↓v15_97, ↓v15_98, ↓v15_101, ↓v15_104, ↓v15_107, ↓v15_108, ↓v15_109, ↓v15_112, ↓qI_c, ↓qL_c, ↓qR_c, ↓pA_o, ↓qC_i, ↓qC_r, ↓oA_s, ↓gI_0, ↓gI_1, ↓gI_2, ↓gI_3, ↓gI_4, ↓gI_5, ↓gI_6, ↓gI_7, ↓gI_8, ↓gI_9, ↓gI_10, ↓gR_0, ↓gR_1, ↓gR_2, ↓gR_3, ↓gR_4, ↓gR_5, ↓gR_6, ↓gR_7, ↓gR_8, ↓gR_9, ↓gR_10, ↓sL_0, ↓sL_1, ↓sL_2, ↓sL_3, ↓sL_4, ↓sL_5, ↓sL_6, ↓sL_7, ↓sL_8, ↓sL_9, ↓sL_10, ↓rrf_si, ↓rrf_sg, ↓shO_si, ↓shO_sg, ↓shO_sr, ↓shA_si, ↓shA_sg, ↓shA_sr, ↓pAs_0, ↓pAs_i, ↓pAs_r, stk_n, stk_i, stk_l, stk_r, List.nil_append, List.cons_append, true_and, and_true, true_or, or_true, Nat.zero_add, dp_s, Nat.reduceAdd, le8_0, le8_1, le8_2, le8_3, le8_4, le8_5, le8_6, le8_7, le8_8, Classical.not_not, aT40, aT41, aT42, aT44, aT54, aT58, aT59, rT54, rT58, rT59, reduceIte, Nat.reduceEqDiff, qn_42, qn_44, true_implies, not_true_eq_false, not_false_eq_true, false_implies, ↓shO_of h6.1.1.1, ↓rrf_of r14, ↓shO_of rc6.1.1]
      refine k20 rc6 ⟨_, rfl, ?_⟩
      rw [htab, List.length_map]
      refine vc_X 20 _ _ _ _ _ _ _ ?_
      simp only [↓v15_0, ↓v15_1, ↓v15_2, ↓v15_5, ↓v15_8, ↓v15_11, ↓v15_12, ↓v15_13, ↓v15_16, ↓v15_17, ↓v15_18, ↓v15_21, ↓v15_24, ↓v15_27, ↓v15_28, ↓v15_31, ↓v15_32, ↓v15_35, ↓v15_38, ↓v15_39, ↓v15_42, ↓v15_43, ↓v15_46, ↓v15_47, ↓v15_50, ↓v15_53, ↓v15_54, ↓v15_55, ↓v15_56, ↓v15_57, ↓v15_60, ↓v15_63, ↓v15_66, ↓v15_67, ↓v15_70, ↓v15_71, ↓v15_74, ↓v15_75, ↓v15_76, ↓v15_77, ↓v15_80, ↓v15_81, ↓v15_82, ↓v15_83, ↓v15_86, ↓v15_89, ↓v15_90, ↓v15_93, ↓v15_94, ↓v15_97, ↓v15_98, ↓v15_101, ↓v15_104, ↓v15_107, ↓v15_108, ↓v15_109, ↓v15_112, ↓qI_c, ↓qL_c, ↓qR_c, ↓pA_o, ↓qC_i, ↓qC_r, ↓oA_s, ↓gI_0, ↓gI_1, ↓gI_2, ↓gI_3, ↓gI_4, ↓gI_5, ↓gI_6, ↓gI_7, ↓gI_8, ↓gI_9, ↓gI_10, ↓gR_0, ↓gR_1, ↓gR_2, ↓gR_3, ↓gR_4, ↓gR_5, ↓gR_6, ↓gR_7, ↓gR_8, ↓gR_9, ↓gR_10, ↓sL_0, ↓sL_1, ↓sL_2, ↓sL_3, ↓sL_4, ↓sL_5, ↓sL_6, ↓sL_7, ↓sL_8, ↓sL_9, ↓sL_10, ↓rrf_si, ↓rrf_sg, ↓shO_si, ↓shO_sg, ↓shO_sr, ↓shA_si, ↓shA_sg, ↓shA_sr, ↓pAs_0, ↓pAs_i, ↓pAs_r, stk_n, stk_i, stk_l, stk_r, List.nil_append, List.cons_append, true_and, and_true, true_or, or_true, Nat.zero_add, dp_s, Nat.reduceAdd, le8_0, le8_1, le8_2, le8_3, le8_4, le8_5, le8_6, le8_7, le8_8, Classical.not_not, aT40, aT41, aT42, aT44, aT54, aT58, aT59, rT54, rT58, rT59, reduceIte, Nat.reduceEqDiff, qn_42, qn_44, true_implies, not_true_eq_false, not_false_eq_true, false_implies, le_T, nT (show t < 2147483648 by omega), nT (show s.g0.length < 2147483648 by omega), ↓shO_of h6.1.1.1, ↓rrf_of r14, ↓shO_of rc6.1.1]
      refine ⟨fun c => by omega, fun _ => k21 rc6 htz ⟨_, rfl, ?_⟩⟩
      refine vc_X 20 _ _ _ _ _ _ _ ?_
      simp only [↓v15_0, ↓v15_1, ↓v15_2, ↓v15_5, ↓v15_8, ↓v15_11, ↓v15_12, ↓v15_13, ↓v15_16, ↓v15_17, ↓v15_18, ↓v15_21, ↓v15_24, ↓v15_27, ↓v15_28, ↓v15_31, ↓v15_32, ↓v15_35, ↓v15_38, ↓v15_39, ↓v15_42, ↓v15_43, ↓v15_46, ↓v15_47, ↓v15_50, ↓v15_53, ↓v15_54, ↓v15_55, ↓v15_56, ↓v15_57, ↓v15_60, ↓v15_63, ↓v15_66, ↓v15_67, ↓v15_70, ↓v15_71, ↓v15_74, ↓v15_75, ↓v15_76, ↓v15_77, ↓v15_80, ↓v15_81, ↓v15_82, ↓v15_83, ↓v15_86, ↓v15_89, ↓v15_90, ↓v15_93, ↓v15_94, ↓v15_97, ↓v15_98, ↓v15_101, ↓v15_104, ↓v15_107, ↓v15_108, ↓v15_109, ↓v15_112, ↓qI_c, ↓qL_c, ↓qR_c, ↓pA_o, ↓qC_i, ↓qC_r, ↓oA_s, ↓gI_0, ↓gI_1, ↓gI_2, ↓gI_3, ↓gI_4, ↓gI_5, ↓gI_6, ↓gI_7, ↓gI_8, ↓gI_9, ↓gI_10, ↓gR_0, ↓gR_1, ↓gR_2, ↓gR_3, ↓gR_4, ↓gR_5, ↓gR_6, ↓gR_7, ↓gR_8, ↓gR_9, ↓gR_10, ↓sL_0, ↓sL_1, ↓sL_2, ↓sL_3, ↓sL_4, ↓sL_5, ↓sL_6, ↓sL_7, ↓sL_8, ↓sL_9, ↓sL_10, ↓rrf_si, ↓rrf_sg, ↓shO_si, ↓shO_sg, ↓shO_sr, ↓shA_si, ↓shA_sg, ↓shA_sr, ↓pAs_0, ↓pAs_i, ↓pAs_r, stk_n, stk_i, stk_l, stk_r, List.nil_append, List.cons_append, true_and, and_true, true_or, or_true, Nat.zero_add, dp_s, Nat.reduceAdd, le8_0, le8_1, le8_2, le8_3, le8_4, le8_5, le8_6, le8_7, le8_8, Classical.not_not, aT40, aT41, aT42, aT44, aT54, aT58, aT59, rT54, rT58, rT59, reduceIte, Nat.reduceEqDiff, qn_42, qn_44, true_implies, not_true_eq_false, not_false_eq_true, false_implies, ↓shO_of h6.1.1.1]
      refine k22 (Q := (pm, s.md, [])) h6 ok0 wz2 (by rw [List.length_cons] at hC6; omega) (fun M7 h7 o7 => ⟨rfl, ?_⟩)
      have e7 : usN [] Cc z.1 (nbA D.1 [] z.1) = usC [] Cc z.1 (nbS s.dk z.1) := by rw [hRW0.us_, hnA]
      have h7 : CP M7 b D (pm, s.md, []) (usN [] Cc z.1 (nbA D.1 [] z.1)) (s.R.2.2.2.1, none) (im, nn, s.g0.take t) s.T ((fun _ => none), s.lo) (G, a1, none, s.R.2.2.1, s.mu, off0) := h7
      rw [e7] at h7
      have hle := usC_le [] Cc z.1 (nbS s.dk z.1)
      have hle2 : nbS s.dk z.1 ≤ 100 := by unfold nbS; have := wb z.1 3; omega
      refine vc_X 20 _ _ _ _ _ _ _ ?_
      simp only [↓v15_0, ↓v15_1, ↓v15_2, ↓v15_5, ↓v15_8, ↓v15_11, ↓v15_12, ↓v15_13, ↓v15_16, ↓v15_17, ↓v15_18, ↓v15_21, ↓v15_24, ↓v15_27, ↓v15_28, ↓v15_31, ↓v15_32, ↓v15_35, ↓v15_38, ↓v15_39, ↓v15_42, ↓v15_43, ↓v15_46, ↓v15_47, ↓v15_50, ↓v15_53, ↓v15_54, ↓v15_55, ↓v15_56, ↓v15_57, ↓v15_60, ↓v15_63, ↓v15_66, ↓v15_67, ↓v15_70, ↓v15_71, ↓v15_74, ↓v15_75, ↓v15_76, ↓v15_77, ↓v15_80, ↓v15_81, ↓v15_82, ↓v15_83, ↓v15_86, ↓v15_89, ↓v15_90, ↓v15_93, ↓v15_94, ↓v15_97, ↓v15_98, ↓v15_101, ↓v15_104, ↓v15_107, ↓v15_108, ↓v15_109, ↓v15_112, ↓qI_c, ↓qL_c, ↓qR_c, ↓pA_o, ↓qC_i, ↓qC_r, ↓oA_s, ↓gI_0, ↓gI_1, ↓gI_2, ↓gI_3, ↓gI_4, ↓gI_5, ↓gI_6, ↓gI_7, ↓gI_8, ↓gI_9, ↓gI_10, ↓gR_0, ↓gR_1, ↓gR_2, ↓gR_3, ↓gR_4, ↓gR_5, ↓gR_6, ↓gR_7, ↓gR_8, ↓gR_9, ↓gR_10, ↓sL_0, ↓sL_1, ↓sL_2, ↓sL_3, ↓sL_4, ↓sL_5, ↓sL_6, ↓sL_7, ↓sL_8, ↓sL_9, ↓sL_10, ↓rrf_si, ↓rrf_sg, ↓shO_si, ↓shO_sg, ↓shO_sr, ↓shA_si, ↓shA_sg, ↓shA_sr, ↓pAs_0, ↓pAs_i, ↓pAs_r, stk_n, stk_i, stk_l, stk_r, List.nil_append, List.cons_append, true_and, and_true, true_or, or_true, Nat.zero_add, dp_s, Nat.reduceAdd, le8_0, le8_1, le8_2, le8_3, le8_4, le8_5, le8_6, le8_7, le8_8, Classical.not_not, aT40, aT41, aT42, aT44, aT54, aT58, aT59, rT54, rT58, rT59, reduceIte, Nat.reduceEqDiff, qn_42, qn_44, true_implies, not_true_eq_false, not_false_eq_true, false_implies, ↓shO_of h7.1.1.1, ↓rrf_of h7.1.2.1.2.2.1]
      refine k31 (Q := (pm, s.md, [])) h7.rd ok0 h7.1.2.2.2.2.1 wz2 (by show z.1 + (lnA D.1 [] z.1 + 5) / 16 < 128; rw [hlA]; omega) (by omega) (by omega) (fun M8 b8 o8 => ⟨rfl, ?_⟩)
      have b8 : BC M8 (b + 271) (b + 272) 255 ((tbL z.2).map nI) := by
        have e : ctA D.1 [] z.1 (lnA D.1 [] z.1) = tbL z.2 := by rw [hlA, hRW0.ct_ hN0 hB0 rdk (by omega), hvw]; exact ect
        rw [← e]
        exact b8
      have h8 := h7.upZn o8 (by simp [PZ])
      have hI8 : IxC M8 (b + 255) im nn (s.g0.take t) := h8.2.2.2.2.2.1
      have hlt : (s.g0.take t).length < 3 := by rw [List.length_take]; omega
      refine vc_X 20 _ _ _ _ _ _ _ ?_
      simp only [↓v15_0, ↓v15_1, ↓v15_2, ↓v15_5, ↓v15_8, ↓v15_11, ↓v15_12, ↓v15_13, ↓v15_16, ↓v15_17, ↓v15_18, ↓v15_21, ↓v15_24, ↓v15_27, ↓v15_28, ↓v15_31, ↓v15_32, ↓v15_35, ↓v15_38, ↓v15_39, ↓v15_42, ↓v15_43, ↓v15_46, ↓v15_47, ↓v15_50, ↓v15_53, ↓v15_54, ↓v15_55, ↓v15_56, ↓v15_57, ↓v15_60, ↓v15_63, ↓v15_66, ↓v15_67, ↓v15_70, ↓v15_71, ↓v15_74, ↓v15_75, ↓v15_76, ↓v15_77, ↓v15_80, ↓v15_81, ↓v15_82, ↓v15_83, ↓v15_86, ↓v15_89, ↓v15_90, ↓v15_93, ↓v15_94, ↓v15_97, ↓v15_98, ↓v15_101, ↓v15_104, ↓v15_107, ↓v15_108, ↓v15_109, ↓v15_112, ↓qI_c, ↓qL_c, ↓qR_c, ↓pA_o, ↓qC_i, ↓qC_r, ↓oA_s, ↓gI_0, ↓gI_1, ↓gI_2, ↓gI_3, ↓gI_4, ↓gI_5, ↓gI_6, ↓gI_7, ↓gI_8, ↓gI_9, ↓gI_10, ↓gR_0, ↓gR_1, ↓gR_2, ↓gR_3, ↓gR_4, ↓gR_5, ↓gR_6, ↓gR_7, ↓gR_8, ↓gR_9, ↓gR_10, ↓sL_0, ↓sL_1, ↓sL_2, ↓sL_3, ↓sL_4, ↓sL_5, ↓sL_6, ↓sL_7, ↓sL_8, ↓sL_9, ↓sL_10, ↓rrf_si, ↓rrf_sg, ↓shO_si, ↓shO_sg, ↓shO_sr, ↓shA_si, ↓shA_sg, ↓shA_sr, ↓pAs_0, ↓pAs_i, ↓pAs_r, stk_n, stk_i, stk_l, stk_r, List.nil_append, List.cons_append, true_and, and_true, true_or, or_true, Nat.zero_add, dp_s, Nat.reduceAdd, le8_0, le8_1, le8_2, le8_3, le8_4, le8_5, le8_6, le8_7, le8_8, Classical.not_not, aT40, aT41, aT42, aT44, aT54, aT58, aT59, rT54, rT58, rT59, reduceIte, Nat.reduceEqDiff, qn_42, qn_44, true_implies, not_true_eq_false, not_false_eq_true, false_implies, ↓shO_of h8.1.1.1, ↓rrf_of h8.1.1.2.2.2.2.2.2, ↓rrf_of h8.1.2.1.2.2.1, ↓shO_of hI8.1.1]
      refine k34 hI8 hlt wz1 (by unfold PX; omega) (by unfold PX; omega) b8 wz2 (fun M9 i9 o9 => ⟨rfl, ?_⟩)
      have etk : s.g0.take t ++ [(z.1, z.2)] = s.g0.take (t + 1) := by
        rw [List.take_add_one, hzt]
        rfl
      rw [etk] at i9
      have h9 := h8.upI i9 o9
      refine vc_X 20 _ _ _ _ _ _ _ ?_
      simp only [↓v15_0, ↓v15_1, ↓v15_2, ↓v15_5, ↓v15_8, ↓v15_11, ↓v15_12, ↓v15_13, ↓v15_16, ↓v15_17, ↓v15_18, ↓v15_21, ↓v15_24, ↓v15_27, ↓v15_28, ↓v15_31, ↓v15_32, ↓v15_35, ↓v15_38, ↓v15_39, ↓v15_42, ↓v15_43, ↓v15_46, ↓v15_47, ↓v15_50, ↓v15_53, ↓v15_54, ↓v15_55, ↓v15_56, ↓v15_57, ↓v15_60, ↓v15_63, ↓v15_66, ↓v15_67, ↓v15_70, ↓v15_71, ↓v15_74, ↓v15_75, ↓v15_76, ↓v15_77, ↓v15_80, ↓v15_81, ↓v15_82, ↓v15_83, ↓v15_86, ↓v15_89, ↓v15_90, ↓v15_93, ↓v15_94, ↓v15_97, ↓v15_98, ↓v15_101, ↓v15_104, ↓v15_107, ↓v15_108, ↓v15_109, ↓v15_112, ↓qI_c, ↓qL_c, ↓qR_c, ↓pA_o, ↓qC_i, ↓qC_r, ↓oA_s, ↓gI_0, ↓gI_1, ↓gI_2, ↓gI_3, ↓gI_4, ↓gI_5, ↓gI_6, ↓gI_7, ↓gI_8, ↓gI_9, ↓gI_10, ↓gR_0, ↓gR_1, ↓gR_2, ↓gR_3, ↓gR_4, ↓gR_5, ↓gR_6, ↓gR_7, ↓gR_8, ↓gR_9, ↓gR_10, ↓sL_0, ↓sL_1, ↓sL_2, ↓sL_3, ↓sL_4, ↓sL_5, ↓sL_6, ↓sL_7, ↓sL_8, ↓sL_9, ↓sL_10, ↓rrf_si, ↓rrf_sg, ↓shO_si, ↓shO_sg, ↓shO_sr, ↓shA_si, ↓shA_sg, ↓shA_sr, ↓pAs_0, ↓pAs_i, ↓pAs_r, stk_n, stk_i, stk_l, stk_r, List.nil_append, List.cons_append, true_and, and_true, true_or, or_true, Nat.zero_add, dp_s, Nat.reduceAdd, le8_0, le8_1, le8_2, le8_3, le8_4, le8_5, le8_6, le8_7, le8_8, Classical.not_not, aT40, aT41, aT42, aT44, aT54, aT58, aT59, rT54, rT58, rT59, reduceIte, Nat.reduceEqDiff, qn_42, qn_44, true_implies, not_true_eq_false, not_false_eq_true, false_implies, nI_1]
      refine ih (t + 1) M9 _ _ hd2 (by rw [List.length_cons] at htl2; omega) h9 (by rw [List.length_cons] at hC6; omega) (((o6.trans (o7.of (P := fun y => b ≤ y ∧ y < b + 279) (fun x hx => by simp at hx; omega)) (fun _ h => h)).trans (o8.of (P := fun y => b ≤ y ∧ y < b + 279) (fun x hx => by simp at hx; omega)) (fun _ h => h)).trans o9 (fun x hx => by unfold PX at hx; omega)) hk2
  refine vc_X 20 _ _ _ _ _ _ _ ?_
  simp only [↓v15_0, ↓v15_1, ↓v15_2, ↓v15_5, ↓v15_8, ↓v15_11, ↓v15_12, ↓v15_13, ↓v15_16, ↓v15_17, ↓v15_18, ↓v15_21, ↓v15_24, ↓v15_27, ↓v15_28, ↓v15_31, ↓v15_32, ↓v15_35, ↓v15_38, ↓v15_39, ↓v15_42, ↓v15_43, ↓v15_46, ↓v15_47, ↓v15_50, ↓v15_53, ↓v15_54, ↓v15_55, ↓v15_56, ↓v15_57, ↓v15_60, ↓v15_63, ↓v15_66, ↓v15_67, ↓v15_70, ↓v15_71, ↓v15_74, ↓v15_75, ↓v15_76, ↓v15_77, ↓v15_80, ↓v15_81, ↓v15_82, ↓v15_83, ↓v15_86, ↓v15_89, ↓v15_90, ↓v15_93, ↓v15_94, ↓v15_97, ↓v15_98, ↓v15_101, ↓v15_104, ↓v15_107, ↓v15_108, ↓v15_109, ↓v15_112, ↓qI_c, ↓qL_c, ↓qR_c, ↓pA_o, ↓qC_i, ↓qC_r, ↓oA_s, ↓gI_0, ↓gI_1, ↓gI_2, ↓gI_3, ↓gI_4, ↓gI_5, ↓gI_6, ↓gI_7, ↓gI_8, ↓gI_9, ↓gI_10, ↓gR_0, ↓gR_1, ↓gR_2, ↓gR_3, ↓gR_4, ↓gR_5, ↓gR_6, ↓gR_7, ↓gR_8, ↓gR_9, ↓gR_10, ↓sL_0, ↓sL_1, ↓sL_2, ↓sL_3, ↓sL_4, ↓sL_5, ↓sL_6, ↓sL_7, ↓sL_8, ↓sL_9, ↓sL_10, ↓rrf_si, ↓rrf_sg, ↓shO_si, ↓shO_sg, ↓shO_sr, ↓shA_si, ↓shA_sg, ↓shA_sr, ↓pAs_0, ↓pAs_i, ↓pAs_r, stk_n, stk_i, stk_l, stk_r, List.nil_append, List.cons_append, true_and, and_true, true_or, or_true, Nat.zero_add, dp_s, Nat.reduceAdd, le8_0, le8_1, le8_2, le8_3, le8_4, le8_5, le8_6, le8_7, le8_8, Classical.not_not, aT40, aT41, aT42, aT44, aT54, aT58, aT59, rT54, rT58, rT59, reduceIte, Nat.reduceEqDiff, qn_42, qn_44, true_implies, not_true_eq_false, not_false_eq_true, false_implies]
  refine lop s.g0 0 M5 s.C _ rfl (by omega) h5 (by omega) oA5 (fun M6 h6 o6 => ?_)
  rw [← htab] at h6
  have o7 : Of (· = b) M6 (M6.si b 18 0) := (Of.rf_ : Of (· = b) M6 M6).i rfl
  obtain ⟨p1, p2, p3, p4, p5, p6, p7, p8⟩ := h6.2.2.2.2.2.2.2.2
  refine hk _ a1 (h6.upF (F' := (G, a1, none, s.R.2.2.1, s.mu, false)) ⟨p1, ?_, ?_, ?_, ?_, ?_, p7, p8⟩ rfl o7 (fun j _ => rfl)) e1 (o6.i (show b ≤ b ∧ b < b + 279 by omega))
  · exact p2.ag (P := fun y => ¬ y = b) (o7.ag (fun _ h => h)) (fun x hx => by omega) (Nat.le_refl _)
  · rw [si_it, if_neg (by simp)]; exact p3
  · rw [si_it, if_neg (by simp)]; exact p4
  · rw [si_it, if_neg (by simp)]; exact p5
  · rw [si_it, if_pos ⟨rfl, rfl⟩]; rfl
theorem c103 {d c : Nat} {M : Mm} {k : mQ} {b : Nat} {s : Ms} (h : CM M b s) (hi : IvS c s) (hc : c ≤ 512) (hk : ∀ M', CM M' b (mRec s).2 → Fr b M M' → k (some (.inl (mRec s).1)) M') : XC (d + 7) 103 [.inr (some b)] M k := by
  have h0 := h
  obtain ⟨D, pm, ws, im, G, a, h, r⟩ := h
  have f18 : M.it b 18 = bI s.off := h.f18
  have f17 : M.it b 17 = nI s.mu := h.f17
  have hm : s.mu ≤ c := hi.2.2.1.2.2.2.1
  have hCb : s.C.2 ≤ 60 * c := hi.2.2.1.2.2.2.2
  unfold mRec at hk
  refine xc ?_
  show X (d + 6) 103 0 [some (.inr (some b))] [] M k
  cases ho : s.off with
  | false =>
    rw [ho, bI_f] at f18
    rw [if_pos ho] at hk
    refine vc_X 20 _ _ _ _ _ _ _ ?_
    simp only [↓v103_0, ↓v103_1, ↓v103_4, ↓v103_7, ↓v103_8, ↓v103_9, ↓v103_10, ↓v103_13, ↓v103_14, ↓v103_17, ↓v103_20, ↓qI_c, ↓qL_c, ↓qR_c, ↓pA_o, ↓qC_i, ↓qC_r, ↓oA_s, ↓gI_0, ↓gI_1, ↓gI_2, ↓gI_3, ↓gI_4, ↓gI_5, ↓gI_6, ↓gI_7, ↓gI_8, ↓gI_9, ↓gI_10, ↓gR_0, ↓gR_1, ↓gR_2, ↓gR_3, ↓gR_4, ↓gR_5, ↓gR_6, ↓gR_7, ↓gR_8, ↓gR_9, ↓gR_10, ↓sL_0, ↓sL_1, ↓sL_2, ↓sL_3, ↓sL_4, ↓sL_5, ↓sL_6, ↓sL_7, ↓sL_8, ↓sL_9, ↓sL_10, ↓rrf_si, ↓rrf_sg, ↓shO_si, ↓shO_sg, ↓shO_sr, ↓shA_si, ↓shA_sg, ↓shA_sr, ↓pAs_0, ↓pAs_i, ↓pAs_r, stk_n, stk_i, stk_l, stk_r, List.nil_append, List.cons_append, true_and, and_true, true_or, or_true, Nat.zero_add, dp_s, Nat.reduceAdd, le8_0, le8_1, le8_2, le8_3, le8_4, le8_5, le8_6, le8_7, le8_8, Classical.not_not, aT40, aT41, aT42, aT44, aT54, aT58, aT59, rT54, rT58, rT59, reduceIte, Nat.reduceEqDiff, qn_42, qn_44, true_implies, not_true_eq_false, not_false_eq_true, false_implies, ↓shO_of h.1.1.1, f18, i00]
    exact hk M h0 Fr.rf_
  | true =>
    rw [ho, bI_t] at f18
    rw [if_neg (by rw [ho]; decide)] at hk
    obtain ⟨w1, w2, w3⟩ := hi.2.1 ho
    have hws : ws = [] := by
      have := r.2.2.2.1.1
      rw [w1] at this
      exact List.length_eq_zero_iff.mp this
    subst hws
    refine vc_X 20 _ _ _ _ _ _ _ ?_
    simp only [↓v103_0, ↓v103_1, ↓v103_4, ↓v103_7, ↓v103_8, ↓v103_9, ↓v103_10, ↓v103_13, ↓v103_14, ↓v103_17, ↓v103_20, ↓qI_c, ↓qL_c, ↓qR_c, ↓pA_o, ↓qC_i, ↓qC_r, ↓oA_s, ↓gI_0, ↓gI_1, ↓gI_2, ↓gI_3, ↓gI_4, ↓gI_5, ↓gI_6, ↓gI_7, ↓gI_8, ↓gI_9, ↓gI_10, ↓gR_0, ↓gR_1, ↓gR_2, ↓gR_3, ↓gR_4, ↓gR_5, ↓gR_6, ↓gR_7, ↓gR_8, ↓gR_9, ↓gR_10, ↓sL_0, ↓sL_1, ↓sL_2, ↓sL_3, ↓sL_4, ↓sL_5, ↓sL_6, ↓sL_7, ↓sL_8, ↓sL_9, ↓sL_10, ↓rrf_si, ↓rrf_sg, ↓shO_si, ↓shO_sg, ↓shO_sr, ↓shA_si, ↓shA_sg, ↓shA_sr, ↓pAs_0, ↓pAs_i, ↓pAs_r, stk_n, stk_i, stk_l, stk_r, List.nil_append, List.cons_append, true_and, and_true, true_or, or_true, Nat.zero_add, dp_s, Nat.reduceAdd, le8_0, le8_1, le8_2, le8_3, le8_4, le8_5, le8_6, le8_7, le8_8, Classical.not_not, aT40, aT41, aT42, aT44, aT54, aT58, aT59, rT54, rT58, rT59, reduceIte, Nat.reduceEqDiff, qn_42, qn_44, true_implies, not_true_eq_false, not_false_eq_true, false_implies, ↓shO_of h.1.1.1, f18, i10]
    refine c15 (s := s) h.1 h.2.1 h.2.2.1.1 h.2.2.2.1.1 (by omega) h.2.2.2.2.1.1 h.2.2.2.2.2.1 h.2.2.2.2.2.2.1 h.2.2.2.2.2.2.2.1.2 f17 (by omega) true f18 r.1 r.2.1 r.2.2.1 hi.2.2.2.2.1.1.1 hi.2.2.2.2.1.1.2 w2 w3 hi.bt.1 (fun M1 a1 h1 e1 o1 => ⟨rfl, ?_⟩)
    have hI1 := h1.2.2.2.2.2.1
    refine vc_X 20 _ _ _ _ _ _ _ ?_
    simp only [↓v103_0, ↓v103_1, ↓v103_4, ↓v103_7, ↓v103_8, ↓v103_9, ↓v103_10, ↓v103_13, ↓v103_14, ↓v103_17, ↓v103_20, ↓qI_c, ↓qL_c, ↓qR_c, ↓pA_o, ↓qC_i, ↓qC_r, ↓oA_s, ↓gI_0, ↓gI_1, ↓gI_2, ↓gI_3, ↓gI_4, ↓gI_5, ↓gI_6, ↓gI_7, ↓gI_8, ↓gI_9, ↓gI_10, ↓gR_0, ↓gR_1, ↓gR_2, ↓gR_3, ↓gR_4, ↓gR_5, ↓gR_6, ↓gR_7, ↓gR_8, ↓gR_9, ↓gR_10, ↓sL_0, ↓sL_1, ↓sL_2, ↓sL_3, ↓sL_4, ↓sL_5, ↓sL_6, ↓sL_7, ↓sL_8, ↓sL_9, ↓sL_10, ↓rrf_si, ↓rrf_sg, ↓shO_si, ↓shO_sg, ↓shO_sr, ↓shA_si, ↓shA_sg, ↓shA_sr, ↓pAs_0, ↓pAs_i, ↓pAs_r, stk_n, stk_i, stk_l, stk_r, List.nil_append, List.cons_append, true_and, and_true, true_or, or_true, Nat.zero_add, dp_s, Nat.reduceAdd, le8_0, le8_1, le8_2, le8_3, le8_4, le8_5, le8_6, le8_7, le8_8, Classical.not_not, aT40, aT41, aT42, aT44, aT54, aT58, aT59, rT54, rT58, rT59, reduceIte, Nat.reduceEqDiff, qn_42, qn_44, true_implies, not_true_eq_false, not_false_eq_true, false_implies, ↓shO_of h1.1.1.1, ↓rrf_of h1.1.1.2.2.2.2.2.2, ↓shO_of hI1.1.1]
    refine k66 hI1 ⟨_, rfl, ?_⟩
    refine vc_X 20 _ _ _ _ _ _ _ ?_
    simp only [↓v103_0, ↓v103_1, ↓v103_4, ↓v103_7, ↓v103_8, ↓v103_9, ↓v103_10, ↓v103_13, ↓v103_14, ↓v103_17, ↓v103_20, ↓qI_c, ↓qL_c, ↓qR_c, ↓pA_o, ↓qC_i, ↓qC_r, ↓oA_s, ↓gI_0, ↓gI_1, ↓gI_2, ↓gI_3, ↓gI_4, ↓gI_5, ↓gI_6, ↓gI_7, ↓gI_8, ↓gI_9, ↓gI_10, ↓gR_0, ↓gR_1, ↓gR_2, ↓gR_3, ↓gR_4, ↓gR_5, ↓gR_6, ↓gR_7, ↓gR_8, ↓gR_9, ↓gR_10, ↓sL_0, ↓sL_1, ↓sL_2, ↓sL_3, ↓sL_4, ↓sL_5, ↓sL_6, ↓sL_7, ↓sL_8, ↓sL_9, ↓sL_10, ↓rrf_si, ↓rrf_sg, ↓shO_si, ↓shO_sg, ↓shO_sr, ↓shA_si, ↓shA_sg, ↓shA_sr, ↓pAs_0, ↓pAs_i, ↓pAs_r, stk_n, stk_i, stk_l, stk_r, List.nil_append, List.cons_append, true_and, and_true, true_or, or_true, Nat.zero_add, dp_s, Nat.reduceAdd, le8_0, le8_1, le8_2, le8_3, le8_4, le8_5, le8_6, le8_7, le8_8, Classical.not_not, aT40, aT41, aT42, aT44, aT54, aT58, aT59, rT54, rT58, rT59, reduceIte, Nat.reduceEqDiff, qn_42, qn_44, true_implies, not_true_eq_false, not_false_eq_true, false_implies]
    refine hk M1 ⟨D, pm, [], im, G, a1, h1, r.1, r.2.1, r.2.2.1, ?_, e1⟩ (o1.fr (fun _ h => h))
    show RW pm G [] s.ws
    rw [w1]
    exact ⟨rfl, fun k x w hx => by simp at hx⟩
