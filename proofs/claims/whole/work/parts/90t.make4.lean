theorem c1b {d : Nat} {M P : Mm} {k : mQ} {b : Nat} {im : Nat → Nat} (hb : b + 1 = M.sz) (hm : Hm M P b) (hd : Hd P b) (hq : QuC P (b + 7) id 0 []) (hc : CaC P (b + 249) [] 0) (l3 : LaC P (b + 251) (b + 252) (fun _ => 0) none) (l4 : LaC P (b + 253) (b + 254) (fun _ => 0) none) (hi : IxC P (b + 255) im (fun _ => none) []) (hA : Ag (fun y => y < M.sz ∧ y ≠ b) M P) (hk : ∀ M', CM M' b ms0 → M'.sz = b + 279 → M'.sl ≤ M.sl + 8000 → Ag (fun y => y < M.sz ∧ y ≠ b) M M' → k none M') : X (d + 6) 1 67 [some (.inr (some b))] [.inr (.inr (some (b + 255))), .inr (.inr (some b))] P k := by
  have q : ∀ (M : Mm) (t : Nat × Nat) (n : Nat), (M.nw t n).sh M.sz = some t ∧ (∀ j, (M.nw t n).it M.sz j = 0) := fun M t n => ⟨by rw [nw_sh, if_pos rfl], fun j => by rw [nw_it, if_pos rfl]⟩
  obtain ⟨u1, u2, u3, u4, u5, u6, u7, u8, u9⟩ := hm
  have a5 : Ag (fun y => y ≠ b) P (P.sr b 5 (some (b + 255))) := ((Of.rf_ : Of (· = b) P P).r rfl).ag (fun x hx hP => hx hP)
  have f5 : ∀ j, (P.sr b 5 (some (b + 255))).rf b j = if j = 5 then some (b + 255) else P.rf b j := fun j => by
    rw [sr_rf]
    by_cases c : j = 5
    · rw [if_pos ⟨rfl, c⟩, if_pos c]
    · rw [if_neg (fun q => c q.2), if_neg c]
  have i5 : ∀ j, (P.sr b 5 (some (b + 255))).it b j = P.it b j := fun j => rfl
  have z6 : (P.sr b 5 (some (b + 255))).sz = b + 267 := u2
  have l6 : (P.sr b 5 (some (b + 255))).sl = M.sl + 5239 := u3
  have h6b : (P.sr b 5 (some (b + 255))).sh b = some (0, 0) := u1
  generalize hM6 : P.sr b 5 (some (b + 255)) = M6 at a5 f5 i5 z6 l6 h6b
  generalize hN6 : M6.nw (1, 0) 2 = N6
  obtain ⟨s6, i6⟩ := q M6 (1, 0) 2
  rw [hN6, z6] at s6
  rw [hN6, z6] at i6
  have y6 : N6.sz = b + 268 := by rw [← hN6]; show M6.sz + 1 = _; rw [z6]
  refine vc_X 20 _ _ _ _ _ _ _ ?_
  simp only [↓v1_0, ↓v1_1, ↓v1_4, ↓v1_5, ↓v1_8, ↓v1_9, ↓v1_12, ↓v1_15, ↓v1_16, ↓v1_19, ↓v1_20, ↓v1_23, ↓v1_26, ↓v1_27, ↓v1_30, ↓v1_31, ↓v1_34, ↓v1_37, ↓v1_38, ↓v1_41, ↓v1_42, ↓v1_45, ↓v1_48, ↓v1_49, ↓v1_52, ↓v1_53, ↓v1_56, ↓v1_59, ↓v1_60, ↓v1_63, ↓v1_64, ↓v1_67, ↓v1_70, ↓v1_71, ↓v1_74, ↓v1_75, ↓v1_78, ↓v1_81, ↓v1_84, ↓v1_85, ↓v1_88, ↓v1_89, ↓v1_92, ↓v1_95, ↓v1_98, ↓v1_99, ↓v1_102, ↓v1_103, ↓v1_106, ↓v1_109, ↓v1_112, ↓v1_113, ↓v1_116, ↓v1_117, ↓v1_120, ↓v1_123, ↓v1_126, ↓v1_127, ↓v1_130, ↓v1_132, ↓v1_135, ↓v1_136, ↓v1_138, ↓v1_140, ↓v1_143, ↓v1_144, ↓v1_146, ↓v1_148, ↓v1_151, ↓v1_152, ↓v1_155, ↓v1_157, ↓v1_160, ↓v1_161, ↓v1_164, ↓qI_c, ↓qL_c, ↓qR_c, ↓pA_o, ↓qC_i, ↓qC_r, ↓oA_s, ↓gI_0, ↓gI_1, ↓gI_2, ↓gI_3, ↓gI_4, ↓gI_5, ↓gI_6, ↓gI_7, ↓gI_8, ↓gI_9, ↓gI_10, ↓gR_0, ↓gR_1, ↓gR_2, ↓gR_3, ↓gR_4, ↓gR_5, ↓gR_6, ↓gR_7, ↓gR_8, ↓gR_9, ↓gR_10, ↓sL_0, ↓sL_1, ↓sL_2, ↓sL_3, ↓sL_4, ↓sL_5, ↓sL_6, ↓sL_7, ↓sL_8, ↓sL_9, ↓sL_10, ↓rrf_si, ↓rrf_sg, ↓shO_si, ↓shO_sg, ↓shO_sr, ↓shA_si, ↓shA_sg, ↓shA_sr, ↓pAs_0, ↓pAs_i, ↓pAs_r, stk_n, stk_i, stk_l, stk_r, List.nil_append, List.cons_append, true_and, and_true, true_or, or_true, Nat.zero_add, dp_s, Nat.reduceAdd, le8_0, le8_1, le8_2, le8_3, le8_4, le8_5, le8_6, le8_7, le8_8, Classical.not_not, aT40, aT41, aT42, aT44, aT54, aT58, aT59, rT54, rT58, rT59, reduceIte, Nat.reduceEqDiff, qn_42, qn_44, true_implies, not_true_eq_false, not_false_eq_true, false_implies, ↓shO_of u1, hM6, hN6, z6]
  refine k13 (N := 200) s6 (i6 1) (by rw [y6]; exact Nat.add_lt_add_left (by decide) b) (by decide) (fun P6 e6 g6 => ⟨rfl, ?_⟩)
  rw [y6] at e6
  rw [← z6] at g6
  have t6 := Stg.mk (b := b) (i := 6) hN6 g6 (by rw [z6]; exact Nat.lt_add_of_pos_right (by decide))
  rw [z6] at t6
  have hP6 : P6.sh b = some (0, 0) := by have := t6.2.2.1; rw [show (P6.sr b 6 (some (b + 267))).sh = P6.sh from rfl] at this; rw [this]; exact h6b
  have a6 : Ag (fun y => y ≠ b) P6 (P6.sr b 6 (some (b + 267))) := ((Of.rf_ : Of (· = b) P6 P6).r rfl).ag (fun x hx hP => hx hP)
  generalize hM7 : P6.sr b 6 (some (b + 267)) = M7 at t6 a6
  have h7b : M7.sh b = some (0, 0) := by rw [t6.2.2.1]; exact h6b
  generalize hN7 : M7.nw (1, 0) 2 = N7
  have z7 : M7.sz = b + 269 := by rw [t6.1.1, z6]
  obtain ⟨s7, i7⟩ := q M7 (1, 0) 2
  rw [hN7, z7] at s7
  rw [hN7, z7] at i7
  have y7 : N7.sz = b + 270 := by rw [← hN7]; show M7.sz + 1 = _; rw [z7]
  refine vc_X 20 _ _ _ _ _ _ _ ?_
  simp only [↓v1_0, ↓v1_1, ↓v1_4, ↓v1_5, ↓v1_8, ↓v1_9, ↓v1_12, ↓v1_15, ↓v1_16, ↓v1_19, ↓v1_20, ↓v1_23, ↓v1_26, ↓v1_27, ↓v1_30, ↓v1_31, ↓v1_34, ↓v1_37, ↓v1_38, ↓v1_41, ↓v1_42, ↓v1_45, ↓v1_48, ↓v1_49, ↓v1_52, ↓v1_53, ↓v1_56, ↓v1_59, ↓v1_60, ↓v1_63, ↓v1_64, ↓v1_67, ↓v1_70, ↓v1_71, ↓v1_74, ↓v1_75, ↓v1_78, ↓v1_81, ↓v1_84, ↓v1_85, ↓v1_88, ↓v1_89, ↓v1_92, ↓v1_95, ↓v1_98, ↓v1_99, ↓v1_102, ↓v1_103, ↓v1_106, ↓v1_109, ↓v1_112, ↓v1_113, ↓v1_116, ↓v1_117, ↓v1_120, ↓v1_123, ↓v1_126, ↓v1_127, ↓v1_130, ↓v1_132, ↓v1_135, ↓v1_136, ↓v1_138, ↓v1_140, ↓v1_143, ↓v1_144, ↓v1_146, ↓v1_148, ↓v1_151, ↓v1_152, ↓v1_155, ↓v1_157, ↓v1_160, ↓v1_161, ↓v1_164, ↓qI_c, ↓qL_c, ↓qR_c, ↓pA_o, ↓qC_i, ↓qC_r, ↓oA_s, ↓gI_0, ↓gI_1, ↓gI_2, ↓gI_3, ↓gI_4, ↓gI_5, ↓gI_6, ↓gI_7, ↓gI_8, ↓gI_9, ↓gI_10, ↓gR_0, ↓gR_1, ↓gR_2, ↓gR_3, ↓gR_4, ↓gR_5, ↓gR_6, ↓gR_7, ↓gR_8, ↓gR_9, ↓gR_10, ↓sL_0, ↓sL_1, ↓sL_2, ↓sL_3, ↓sL_4, ↓sL_5, ↓sL_6, ↓sL_7, ↓sL_8, ↓sL_9, ↓sL_10, ↓rrf_si, ↓rrf_sg, ↓shO_si, ↓shO_sg, ↓shO_sr, ↓shA_si, ↓shA_sg, ↓shA_sr, ↓pAs_0, ↓pAs_i, ↓pAs_r, stk_n, stk_i, stk_l, stk_r, List.nil_append, List.cons_append, true_and, and_true, true_or, or_true, Nat.zero_add, dp_s, Nat.reduceAdd, le8_0, le8_1, le8_2, le8_3, le8_4, le8_5, le8_6, le8_7, le8_8, Classical.not_not, aT40, aT41, aT42, aT44, aT54, aT58, aT59, rT54, rT58, rT59, reduceIte, Nat.reduceEqDiff, qn_42, qn_44, true_implies, not_true_eq_false, not_false_eq_true, false_implies, ↓shO_of hP6, hM7, hN7, z7]
  refine k13 (N := 255) s7 (i7 1) (by rw [y7]; exact Nat.add_lt_add_left (by decide) b) (by decide) (fun P7 e7 g7 => ⟨rfl, ?_⟩)
  rw [y7] at e7
  rw [← z7] at g7
  have t7 := Stg.mk (b := b) (i := 7) hN7 g7 (by rw [z7]; exact Nat.lt_add_of_pos_right (by decide))
  rw [z7] at t7
  have hP7 : P7.sh b = some (0, 0) := by have := t7.2.2.1; rw [show (P7.sr b 7 (some (b + 269))).sh = P7.sh from rfl] at this; rw [this]; exact h7b
  have a7 : Ag (fun y => y ≠ b) P7 (P7.sr b 7 (some (b + 269))) := ((Of.rf_ : Of (· = b) P7 P7).r rfl).ag (fun x hx hP => hx hP)
  generalize hM8 : P7.sr b 7 (some (b + 269)) = M8 at t7 a7
  have h8b : M8.sh b = some (0, 0) := by rw [t7.2.2.1]; exact h7b
  generalize hN8 : M8.nw (1, 0) 2 = N8
  have z8 : M8.sz = b + 271 := by rw [t7.1.1, z7]
  obtain ⟨s8, i8⟩ := q M8 (1, 0) 2
  rw [hN8, z8] at s8
  rw [hN8, z8] at i8
  have y8 : N8.sz = b + 272 := by rw [← hN8]; show M8.sz + 1 = _; rw [z8]
  refine vc_X 20 _ _ _ _ _ _ _ ?_
  simp only [↓v1_0, ↓v1_1, ↓v1_4, ↓v1_5, ↓v1_8, ↓v1_9, ↓v1_12, ↓v1_15, ↓v1_16, ↓v1_19, ↓v1_20, ↓v1_23, ↓v1_26, ↓v1_27, ↓v1_30, ↓v1_31, ↓v1_34, ↓v1_37, ↓v1_38, ↓v1_41, ↓v1_42, ↓v1_45, ↓v1_48, ↓v1_49, ↓v1_52, ↓v1_53, ↓v1_56, ↓v1_59, ↓v1_60, ↓v1_63, ↓v1_64, ↓v1_67, ↓v1_70, ↓v1_71, ↓v1_74, ↓v1_75, ↓v1_78, ↓v1_81, ↓v1_84, ↓v1_85, ↓v1_88, ↓v1_89, ↓v1_92, ↓v1_95, ↓v1_98, ↓v1_99, ↓v1_102, ↓v1_103, ↓v1_106, ↓v1_109, ↓v1_112, ↓v1_113, ↓v1_116, ↓v1_117, ↓v1_120, ↓v1_123, ↓v1_126, ↓v1_127, ↓v1_130, ↓v1_132, ↓v1_135, ↓v1_136, ↓v1_138, ↓v1_140, ↓v1_143, ↓v1_144, ↓v1_146, ↓v1_148, ↓v1_151, ↓v1_152, ↓v1_155, ↓v1_157, ↓v1_160, ↓v1_161, ↓v1_164, ↓qI_c, ↓qL_c, ↓qR_c, ↓pA_o, ↓qC_i, ↓qC_r, ↓oA_s, ↓gI_0, ↓gI_1, ↓gI_2, ↓gI_3, ↓gI_4, ↓gI_5, ↓gI_6, ↓gI_7, ↓gI_8, ↓gI_9, ↓gI_10, ↓gR_0, ↓gR_1, ↓gR_2, ↓gR_3, ↓gR_4, ↓gR_5, ↓gR_6, ↓gR_7, ↓gR_8, ↓gR_9, ↓gR_10, ↓sL_0, ↓sL_1, ↓sL_2, ↓sL_3, ↓sL_4, ↓sL_5, ↓sL_6, ↓sL_7, ↓sL_8, ↓sL_9, ↓sL_10, ↓rrf_si, ↓rrf_sg, ↓shO_si, ↓shO_sg, ↓shO_sr, ↓shA_si, ↓shA_sg, ↓shA_sr, ↓pAs_0, ↓pAs_i, ↓pAs_r, stk_n, stk_i, stk_l, stk_r, List.nil_append, List.cons_append, true_and, and_true, true_or, or_true, Nat.zero_add, dp_s, Nat.reduceAdd, le8_0, le8_1, le8_2, le8_3, le8_4, le8_5, le8_6, le8_7, le8_8, Classical.not_not, aT40, aT41, aT42, aT44, aT54, aT58, aT59, rT54, rT58, rT59, reduceIte, Nat.reduceEqDiff, qn_42, qn_44, true_implies, not_true_eq_false, not_false_eq_true, false_implies, ↓shO_of hP7, hM8, hN8, z8]
  refine k13 (N := 255) s8 (i8 1) (by rw [y8]; exact Nat.add_lt_add_left (by decide) b) (by decide) (fun P8 e8 g8 => ⟨rfl, ?_⟩)
  rw [y8] at e8
  rw [← z8] at g8
  have t8 := Stg.mk (b := b) (i := 8) hN8 g8 (by rw [z8]; exact Nat.lt_add_of_pos_right (by decide))
  rw [z8] at t8
  have hP8 : P8.sh b = some (0, 0) := by have := t8.2.2.1; rw [show (P8.sr b 8 (some (b + 271))).sh = P8.sh from rfl] at this; rw [this]; exact h8b
  have a8 : Ag (fun y => y ≠ b) P8 (P8.sr b 8 (some (b + 271))) := ((Of.rf_ : Of (· = b) P8 P8).r rfl).ag (fun x hx hP => hx hP)
  generalize hM9 : P8.sr b 8 (some (b + 271)) = M9 at t8 a8
  have h9b : M9.sh b = some (0, 0) := by rw [t8.2.2.1]; exact h8b
  generalize hN9 : M9.nw (1, 0) 2 = N9
  have z9 : M9.sz = b + 273 := by rw [t8.1.1, z8]
  obtain ⟨s9, i9⟩ := q M9 (1, 0) 2
  rw [hN9, z9] at s9
  rw [hN9, z9] at i9
  have y9 : N9.sz = b + 274 := by rw [← hN9]; show M9.sz + 1 = _; rw [z9]
  refine vc_X 20 _ _ _ _ _ _ _ ?_
  simp only [↓v1_0, ↓v1_1, ↓v1_4, ↓v1_5, ↓v1_8, ↓v1_9, ↓v1_12, ↓v1_15, ↓v1_16, ↓v1_19, ↓v1_20, ↓v1_23, ↓v1_26, ↓v1_27, ↓v1_30, ↓v1_31, ↓v1_34, ↓v1_37, ↓v1_38, ↓v1_41, ↓v1_42, ↓v1_45, ↓v1_48, ↓v1_49, ↓v1_52, ↓v1_53, ↓v1_56, ↓v1_59, ↓v1_60, ↓v1_63, ↓v1_64, ↓v1_67, ↓v1_70, ↓v1_71, ↓v1_74, ↓v1_75, ↓v1_78, ↓v1_81, ↓v1_84, ↓v1_85, ↓v1_88, ↓v1_89, ↓v1_92, ↓v1_95, ↓v1_98, ↓v1_99, ↓v1_102, ↓v1_103, ↓v1_106, ↓v1_109, ↓v1_112, ↓v1_113, ↓v1_116, ↓v1_117, ↓v1_120, ↓v1_123, ↓v1_126, ↓v1_127, ↓v1_130, ↓v1_132, ↓v1_135, ↓v1_136, ↓v1_138, ↓v1_140, ↓v1_143, ↓v1_144, ↓v1_146, ↓v1_148, ↓v1_151, ↓v1_152, ↓v1_155, ↓v1_157, ↓v1_160, ↓v1_161, ↓v1_164, ↓qI_c, ↓qL_c, ↓qR_c, ↓pA_o, ↓qC_i, ↓qC_r, ↓oA_s, ↓gI_0, ↓gI_1, ↓gI_2, ↓gI_3, ↓gI_4, ↓gI_5, ↓gI_6, ↓gI_7, ↓gI_8, ↓gI_9, ↓gI_10, ↓gR_0, ↓gR_1, ↓gR_2, ↓gR_3, ↓gR_4, ↓gR_5, ↓gR_6, ↓gR_7, ↓gR_8, ↓gR_9, ↓gR_10, ↓sL_0, ↓sL_1, ↓sL_2, ↓sL_3, ↓sL_4, ↓sL_5, ↓sL_6, ↓sL_7, ↓sL_8, ↓sL_9, ↓sL_10, ↓rrf_si, ↓rrf_sg, ↓shO_si, ↓shO_sg, ↓shO_sr, ↓shA_si, ↓shA_sg, ↓shA_sr, ↓pAs_0, ↓pAs_i, ↓pAs_r, stk_n, stk_i, stk_l, stk_r, List.nil_append, List.cons_append, true_and, and_true, true_or, or_true, Nat.zero_add, dp_s, Nat.reduceAdd, le8_0, le8_1, le8_2, le8_3, le8_4, le8_5, le8_6, le8_7, le8_8, Classical.not_not, aT40, aT41, aT42, aT44, aT54, aT58, aT59, rT54, rT58, rT59, reduceIte, Nat.reduceEqDiff, qn_42, qn_44, true_implies, not_true_eq_false, not_false_eq_true, false_implies, ↓shO_of hP8, hM9, hN9, z9]
  refine k13 (N := 263) s9 (i9 1) (by rw [y9]; exact Nat.add_lt_add_left (by decide) b) (by decide) (fun P9 e9 g9 => ⟨rfl, ?_⟩)
  rw [y9] at e9
  rw [← z9] at g9
  have t9 := Stg.mk (b := b) (i := 9) hN9 g9 (by rw [z9]; exact Nat.lt_add_of_pos_right (by decide))
  rw [z9] at t9
  have hP9 : P9.sh b = some (0, 0) := by have := t9.2.2.1; rw [show (P9.sr b 9 (some (b + 273))).sh = P9.sh from rfl] at this; rw [this]; exact h9b
  have a9 : Ag (fun y => y ≠ b) P9 (P9.sr b 9 (some (b + 273))) := ((Of.rf_ : Of (· = b) P9 P9).r rfl).ag (fun x hx hP => hx hP)
  generalize hM10 : P9.sr b 9 (some (b + 273)) = M10 at t9 a9
  have h10b : M10.sh b = some (0, 0) := by rw [t9.2.2.1]; exact h9b
  generalize hN10 : M10.nw (42, 128) 128 = N10
  have z10 : M10.sz = b + 275 := by rw [t9.1.1, z9]
  obtain ⟨s10, i10⟩ := q M10 (42, 128) 128
  rw [hN10, z10] at s10
  rw [hN10, z10] at i10
  have t10 := Stg.arr (b := b) (i := 10) hN10 (by rw [z10]; exact Nat.lt_add_of_pos_right (by decide))
  rw [z10] at t10
  have hP10 : N10.sh b = some (0, 0) := by have := t10.2.2.1; rw [show (N10.sr b 10 (some (b + 275))).sh = N10.sh from rfl] at this; rw [this]; exact h10b
  have a10 : Ag (fun y => y ≠ b) N10 (N10.sr b 10 (some (b + 275))) := ((Of.rf_ : Of (· = b) N10 N10).r rfl).ag (fun x hx hP => hx hP)
  generalize hM11 : N10.sr b 10 (some (b + 275)) = M11 at t10 a10
  have h11b : M11.sh b = some (0, 0) := by rw [t10.2.2.1]; exact h10b
  generalize hN11 : M11.nw (41, 16) 16 = N11
  have z11 : M11.sz = b + 276 := by rw [t10.1.1, z10]
  obtain ⟨s11, i11⟩ := q M11 (41, 16) 16
  rw [hN11, z11] at s11
  rw [hN11, z11] at i11
  have t11 := Stg.arr (b := b) (i := 11) hN11 (by rw [z11]; exact Nat.lt_add_of_pos_right (by decide))
  rw [z11] at t11
  have hP11 : N11.sh b = some (0, 0) := by have := t11.2.2.1; rw [show (N11.sr b 11 (some (b + 276))).sh = N11.sh from rfl] at this; rw [this]; exact h11b
  have a11 : Ag (fun y => y ≠ b) N11 (N11.sr b 11 (some (b + 276))) := ((Of.rf_ : Of (· = b) N11 N11).r rfl).ag (fun x hx hP => hx hP)
  generalize hM12 : N11.sr b 11 (some (b + 276)) = M12 at t11 a11
  have h12b : M12.sh b = some (0, 0) := by rw [t11.2.2.1]; exact h11b
  generalize hN12 : M12.nw (41, 8) 8 = N12
  have z12 : M12.sz = b + 277 := by rw [t11.1.1, z11]
  obtain ⟨s12, i12⟩ := q M12 (41, 8) 8
  rw [hN12, z12] at s12
  rw [hN12, z12] at i12
  have t12 := Stg.arr (b := b) (i := 12) hN12 (by rw [z12]; exact Nat.lt_add_of_pos_right (by decide))
  rw [z12] at t12
  have hP12 : N12.sh b = some (0, 0) := by have := t12.2.2.1; rw [show (N12.sr b 12 (some (b + 277))).sh = N12.sh from rfl] at this; rw [this]; exact h12b
  have a12 : Ag (fun y => y ≠ b) N12 (N12.sr b 12 (some (b + 277))) := ((Of.rf_ : Of (· = b) N12 N12).r rfl).ag (fun x hx hP => hx hP)
  generalize hM13 : N12.sr b 12 (some (b + 277)) = M13 at t12 a12
  have h13b : M13.sh b = some (0, 0) := by rw [t12.2.2.1]; exact h12b
  generalize hN13 : M13.nw (42, 513) 513 = N13
  have z13 : M13.sz = b + 278 := by rw [t12.1.1, z12]
  obtain ⟨s13, i13⟩ := q M13 (42, 513) 513
  rw [hN13, z13] at s13
  rw [hN13, z13] at i13
  have t13 := Stg.arr (b := b) (i := 13) hN13 (by rw [z13]; exact Nat.lt_add_of_pos_right (by decide))
  rw [z13] at t13
  have hP13 : N13.sh b = some (0, 0) := by have := t13.2.2.1; rw [show (N13.sr b 13 (some (b + 278))).sh = N13.sh from rfl] at this; rw [this]; exact h13b
  have a13 : Ag (fun y => y ≠ b) N13 (N13.sr b 13 (some (b + 278))) := ((Of.rf_ : Of (· = b) N13 N13).r rfl).ag (fun x hx hP => hx hP)
  generalize hM14 : N13.sr b 13 (some (b + 278)) = M14 at t13 a13
  have h14b : M14.sh b = some (0, 0) := by rw [t13.2.2.1]; exact h13b
  refine vc_X 60 _ _ _ _ _ _ _ ?_
  simp only [↓v1_0, ↓v1_1, ↓v1_4, ↓v1_5, ↓v1_8, ↓v1_9, ↓v1_12, ↓v1_15, ↓v1_16, ↓v1_19, ↓v1_20, ↓v1_23, ↓v1_26, ↓v1_27, ↓v1_30, ↓v1_31, ↓v1_34, ↓v1_37, ↓v1_38, ↓v1_41, ↓v1_42, ↓v1_45, ↓v1_48, ↓v1_49, ↓v1_52, ↓v1_53, ↓v1_56, ↓v1_59, ↓v1_60, ↓v1_63, ↓v1_64, ↓v1_67, ↓v1_70, ↓v1_71, ↓v1_74, ↓v1_75, ↓v1_78, ↓v1_81, ↓v1_84, ↓v1_85, ↓v1_88, ↓v1_89, ↓v1_92, ↓v1_95, ↓v1_98, ↓v1_99, ↓v1_102, ↓v1_103, ↓v1_106, ↓v1_109, ↓v1_112, ↓v1_113, ↓v1_116, ↓v1_117, ↓v1_120, ↓v1_123, ↓v1_126, ↓v1_127, ↓v1_130, ↓v1_132, ↓v1_135, ↓v1_136, ↓v1_138, ↓v1_140, ↓v1_143, ↓v1_144, ↓v1_146, ↓v1_148, ↓v1_151, ↓v1_152, ↓v1_155, ↓v1_157, ↓v1_160, ↓v1_161, ↓v1_164, ↓qI_c, ↓qL_c, ↓qR_c, ↓pA_o, ↓qC_i, ↓qC_r, ↓oA_s, ↓gI_0, ↓gI_1, ↓gI_2, ↓gI_3, ↓gI_4, ↓gI_5, ↓gI_6, ↓gI_7, ↓gI_8, ↓gI_9, ↓gI_10, ↓gR_0, ↓gR_1, ↓gR_2, ↓gR_3, ↓gR_4, ↓gR_5, ↓gR_6, ↓gR_7, ↓gR_8, ↓gR_9, ↓gR_10, ↓sL_0, ↓sL_1, ↓sL_2, ↓sL_3, ↓sL_4, ↓sL_5, ↓sL_6, ↓sL_7, ↓sL_8, ↓sL_9, ↓sL_10, ↓rrf_si, ↓rrf_sg, ↓shO_si, ↓shO_sg, ↓shO_sr, ↓shA_si, ↓shA_sg, ↓shA_sr, ↓pAs_0, ↓pAs_i, ↓pAs_r, stk_n, stk_i, stk_l, stk_r, List.nil_append, List.cons_append, true_and, and_true, true_or, or_true, Nat.zero_add, dp_s, Nat.reduceAdd, le8_0, le8_1, le8_2, le8_3, le8_4, le8_5, le8_6, le8_7, le8_8, Classical.not_not, aT40, aT41, aT42, aT44, aT54, aT58, aT59, rT54, rT58, rT59, reduceIte, Nat.reduceEqDiff, qn_42, qn_44, true_implies, not_true_eq_false, not_false_eq_true, false_implies, ↓shO_of hP9, hM10, T_128, cl128, z10, hN10, ↓shO_of hP10, hM11, T_16, cl16, z11, hN11, ↓shO_of hP11, hM12, T_8, cl8, z12, hN12, ↓shO_of hP12, hM13, T_513, cl513, z13, hN13, ↓shO_of hP13, hM14, ↓shO_of h14b]
  refine ⟨by omega, by omega, by omega, by omega, by omega, by omega, by omega, by omega, ?_⟩
  have B13 : Ag (fun y => y < b + 278 ∧ y ≠ b) M13 M14 := t13.2.1.mono (fun x hx => by rw [z13]; exact hx)
  have B12 : Ag (fun y => y < b + 277 ∧ y ≠ b) M12 M14 := (t12.2.1.mono (R := fun y => y < b + 277 ∧ y ≠ b) (fun x hx => by rw [z12]; exact hx)).trans B13 (fun x hx => ⟨Nat.lt_of_lt_of_le hx.1 (Nat.add_le_add_left (by decide) b), hx.2⟩)
  have B11 : Ag (fun y => y < b + 276 ∧ y ≠ b) M11 M14 := (t11.2.1.mono (R := fun y => y < b + 276 ∧ y ≠ b) (fun x hx => by rw [z11]; exact hx)).trans B12 (fun x hx => ⟨Nat.lt_of_lt_of_le hx.1 (Nat.add_le_add_left (by decide) b), hx.2⟩)
  have B10 : Ag (fun y => y < b + 275 ∧ y ≠ b) M10 M14 := (t10.2.1.mono (R := fun y => y < b + 275 ∧ y ≠ b) (fun x hx => by rw [z10]; exact hx)).trans B11 (fun x hx => ⟨Nat.lt_of_lt_of_le hx.1 (Nat.add_le_add_left (by decide) b), hx.2⟩)
  have B9 : Ag (fun y => y < b + 273 ∧ y ≠ b) M9 M14 := (t9.2.1.mono (R := fun y => y < b + 273 ∧ y ≠ b) (fun x hx => by rw [z9]; exact hx)).trans B10 (fun x hx => ⟨Nat.lt_of_lt_of_le hx.1 (Nat.add_le_add_left (by decide) b), hx.2⟩)
  have B8 : Ag (fun y => y < b + 271 ∧ y ≠ b) M8 M14 := (t8.2.1.mono (R := fun y => y < b + 271 ∧ y ≠ b) (fun x hx => by rw [z8]; exact hx)).trans B9 (fun x hx => ⟨Nat.lt_of_lt_of_le hx.1 (Nat.add_le_add_left (by decide) b), hx.2⟩)
  have B7 : Ag (fun y => y < b + 269 ∧ y ≠ b) M7 M14 := (t7.2.1.mono (R := fun y => y < b + 269 ∧ y ≠ b) (fun x hx => by rw [z7]; exact hx)).trans B8 (fun x hx => ⟨Nat.lt_of_lt_of_le hx.1 (Nat.add_le_add_left (by decide) b), hx.2⟩)
  have B6 : Ag (fun y => y < b + 267 ∧ y ≠ b) M6 M14 := (t6.2.1.mono (R := fun y => y < b + 267 ∧ y ≠ b) (fun x hx => by rw [z6]; exact hx)).trans B7 (fun x hx => ⟨Nat.lt_of_lt_of_le hx.1 (Nat.add_le_add_left (by decide) b), hx.2⟩)
  have C5 : Ag (fun y => y < b + 267 ∧ y ≠ b) P M14 := (a5.mono (R := fun y => y < b + 267 ∧ y ≠ b) (fun x hx => hx.2)).trans B6 (fun x hx => hx)
  have C6 : Ag (fun y => y < b + 269 ∧ y ≠ b) P6 M14 := (a6.mono (R := fun y => y < b + 269 ∧ y ≠ b) (fun x hx => hx.2)).trans B7 (fun x hx => hx)
  have C7 : Ag (fun y => y < b + 271 ∧ y ≠ b) P7 M14 := (a7.mono (R := fun y => y < b + 271 ∧ y ≠ b) (fun x hx => hx.2)).trans B8 (fun x hx => hx)
  have C8 : Ag (fun y => y < b + 273 ∧ y ≠ b) P8 M14 := (a8.mono (R := fun y => y < b + 273 ∧ y ≠ b) (fun x hx => hx.2)).trans B9 (fun x hx => hx)
  have C9 : Ag (fun y => y < b + 275 ∧ y ≠ b) P9 M14 := (a9.mono (R := fun y => y < b + 275 ∧ y ≠ b) (fun x hx => hx.2)).trans B10 (fun x hx => hx)
  have C10 : Ag (fun y => y < b + 276 ∧ y ≠ b) N10 M14 := (a10.mono (R := fun y => y < b + 276 ∧ y ≠ b) (fun x hx => hx.2)).trans B11 (fun x hx => hx)
  have C11 : Ag (fun y => y < b + 277 ∧ y ≠ b) N11 M14 := (a11.mono (R := fun y => y < b + 277 ∧ y ≠ b) (fun x hx => hx.2)).trans B12 (fun x hx => hx)
  have C12 : Ag (fun y => y < b + 278 ∧ y ≠ b) N12 M14 := (a12.mono (R := fun y => y < b + 278 ∧ y ≠ b) (fun x hx => hx.2)).trans B13 (fun x hx => hx)
  have C13 : Ag (fun y => y < b + 279 ∧ y ≠ b) N13 M14 := a13.mono (fun x hx => hx.2)
  have r0 : M14.rf b 0 = some (b + 1) := by rw [t13.2.2.2.2, if_neg (by decide), t12.2.2.2.2, if_neg (by decide), t11.2.2.2.2, if_neg (by decide), t10.2.2.2.2, if_neg (by decide), t9.2.2.2.2, if_neg (by decide), t8.2.2.2.2, if_neg (by decide), t7.2.2.2.2, if_neg (by decide), t6.2.2.2.2, if_neg (by decide), f5, if_neg (by decide)]; exact u4
  have r1 : M14.rf b 1 = some (b + 7) := by rw [t13.2.2.2.2, if_neg (by decide), t12.2.2.2.2, if_neg (by decide), t11.2.2.2.2, if_neg (by decide), t10.2.2.2.2, if_neg (by decide), t9.2.2.2.2, if_neg (by decide), t8.2.2.2.2, if_neg (by decide), t7.2.2.2.2, if_neg (by decide), t6.2.2.2.2, if_neg (by decide), f5, if_neg (by decide)]; exact u5
  have r2 : M14.rf b 2 = some (b + 249) := by rw [t13.2.2.2.2, if_neg (by decide), t12.2.2.2.2, if_neg (by decide), t11.2.2.2.2, if_neg (by decide), t10.2.2.2.2, if_neg (by decide), t9.2.2.2.2, if_neg (by decide), t8.2.2.2.2, if_neg (by decide), t7.2.2.2.2, if_neg (by decide), t6.2.2.2.2, if_neg (by decide), f5, if_neg (by decide)]; exact u6
  have r3 : M14.rf b 3 = some (b + 251) := by rw [t13.2.2.2.2, if_neg (by decide), t12.2.2.2.2, if_neg (by decide), t11.2.2.2.2, if_neg (by decide), t10.2.2.2.2, if_neg (by decide), t9.2.2.2.2, if_neg (by decide), t8.2.2.2.2, if_neg (by decide), t7.2.2.2.2, if_neg (by decide), t6.2.2.2.2, if_neg (by decide), f5, if_neg (by decide)]; exact u7
  have r4 : M14.rf b 4 = some (b + 253) := by rw [t13.2.2.2.2, if_neg (by decide), t12.2.2.2.2, if_neg (by decide), t11.2.2.2.2, if_neg (by decide), t10.2.2.2.2, if_neg (by decide), t9.2.2.2.2, if_neg (by decide), t8.2.2.2.2, if_neg (by decide), t7.2.2.2.2, if_neg (by decide), t6.2.2.2.2, if_neg (by decide), f5, if_neg (by decide)]; exact u8
  have r5 : M14.rf b 5 = some (b + 255) := by rw [t13.2.2.2.2, if_neg (by decide), t12.2.2.2.2, if_neg (by decide), t11.2.2.2.2, if_neg (by decide), t10.2.2.2.2, if_neg (by decide), t9.2.2.2.2, if_neg (by decide), t8.2.2.2.2, if_neg (by decide), t7.2.2.2.2, if_neg (by decide), t6.2.2.2.2, if_neg (by decide), f5, if_pos rfl]
  have r6 : M14.rf b 6 = some (b + 267) := by rw [t13.2.2.2.2, if_neg (by decide), t12.2.2.2.2, if_neg (by decide), t11.2.2.2.2, if_neg (by decide), t10.2.2.2.2, if_neg (by decide), t9.2.2.2.2, if_neg (by decide), t8.2.2.2.2, if_neg (by decide), t7.2.2.2.2, if_neg (by decide), t6.2.2.2.2, if_pos rfl]
  have r7 : M14.rf b 7 = some (b + 269) := by rw [t13.2.2.2.2, if_neg (by decide), t12.2.2.2.2, if_neg (by decide), t11.2.2.2.2, if_neg (by decide), t10.2.2.2.2, if_neg (by decide), t9.2.2.2.2, if_neg (by decide), t8.2.2.2.2, if_neg (by decide), t7.2.2.2.2, if_pos rfl]
  have r8 : M14.rf b 8 = some (b + 271) := by rw [t13.2.2.2.2, if_neg (by decide), t12.2.2.2.2, if_neg (by decide), t11.2.2.2.2, if_neg (by decide), t10.2.2.2.2, if_neg (by decide), t9.2.2.2.2, if_neg (by decide), t8.2.2.2.2, if_pos rfl]
  have r9 : M14.rf b 9 = some (b + 273) := by rw [t13.2.2.2.2, if_neg (by decide), t12.2.2.2.2, if_neg (by decide), t11.2.2.2.2, if_neg (by decide), t10.2.2.2.2, if_neg (by decide), t9.2.2.2.2, if_pos rfl]
  have r10 : M14.rf b 10 = some (b + 275) := by rw [t13.2.2.2.2, if_neg (by decide), t12.2.2.2.2, if_neg (by decide), t11.2.2.2.2, if_neg (by decide), t10.2.2.2.2, if_pos rfl]
  have r11 : M14.rf b 11 = some (b + 276) := by rw [t13.2.2.2.2, if_neg (by decide), t12.2.2.2.2, if_neg (by decide), t11.2.2.2.2, if_pos rfl]
  have r12 : M14.rf b 12 = some (b + 277) := by rw [t13.2.2.2.2, if_neg (by decide), t12.2.2.2.2, if_pos rfl]
  have r13 : M14.rf b 13 = some (b + 278) := by rw [t13.2.2.2.2, if_pos rfl]
  have it0 : ∀ j, M14.it b j = 0 := fun j => by rw [t13.2.2.2.1, t12.2.2.2.1, t11.2.2.2.1, t10.2.2.2.1, t9.2.2.2.1, t8.2.2.2.1, t7.2.2.2.1, t6.2.2.2.1, i5]; exact u9 j
  have zf : M14.sz = b + 279 := by rw [t13.1.1, z13]
  have lf : M14.sl ≤ M.sl + 8000 := by rw [t13.1.2, t12.1.2, t11.1.2, t10.1.2, t9.1.2, t8.1.2, t7.1.2, t6.1.2, l6]; omega
  have AF : Ag (fun y => y < M.sz ∧ y ≠ b) M M14 := hA.trans C5 (fun x hx => ⟨by omega, hx.2⟩)
  have s10' : M14.sh (b + 275) = some (42, 128) := by rw [C10.sh ⟨by omega, by omega⟩]; exact s10
  have s11' : M14.sh (b + 276) = some (41, 16) := by rw [C11.sh ⟨by omega, by omega⟩]; exact s11
  have s12' : M14.sh (b + 277) = some (41, 8) := by rw [C12.sh ⟨by omega, by omega⟩]; exact s12
  have s13' : M14.sh (b + 278) = some (42, 513) := by rw [C13.sh ⟨by omega, by omega⟩]; exact s13
  have hlo : ∀ j, M14.it (b + 278) j = 0 := fun j => by rw [C13.it ⟨by omega, by omega⟩]; exact i13 j
  clear t6 t7 t8 t9 t10 t11 t12 t13 z6 z7 z8 z9 z10 z11 z12 z13 y6 y7 y8 y9 l6 u2 u3
  have hB : CpB M14 b := ⟨⟨h14b, r0, r1, r2, r3, r4, r5⟩, ⟨r6, r7, r8, r9, r10, r11, r12, r13⟩, ⟨s10', s11', s12', s13'⟩, l4.1.ag C5 ⟨by omega, by omega⟩ ⟨by omega, by omega⟩, e8.1.ag C8 ⟨by omega, by omega⟩ ⟨by omega, by omega⟩, e9.1.ag C9 ⟨by omega, by omega⟩ ⟨by omega, by omega⟩, Nat.le_of_eq zf.symm⟩
  have hD : CpD M14 b ((fun _ => 0), b + 4, none) (fun _ => r00) := ⟨hd.1.ag C5 ⟨by omega, by omega⟩ ⟨by omega, by omega⟩ ⟨by omega, by omega⟩, by rw [C5.rf ⟨by omega, by omega⟩]; exact hd.2.1, by rw [C5.rf ⟨by omega, by omega⟩]; exact hd.2.2.1, ⟨hd.2.2.2.ag C5 ⟨by omega, by omega⟩ ⟨by omega, by omega⟩ ⟨by omega, by omega⟩, Or.inl rfl, (by show b + 4 + 3 ≤ M14.sz; rw [zf]; omega)⟩, fun a ha => (by cases ha)⟩
  have on := inv_0.1 rfl
  refine c15 (s := ms0) (pm := id) hB hD (hq.ag C5 (fun x hx => by unfold PQ at hx; omega)) (hc.ag C5 ⟨by omega, by omega⟩ ⟨by omega, by omega⟩) (by decide) (l3.1.ag C5 ⟨by omega, by omega⟩ ⟨by omega, by omega⟩) (hi.ag C5 (fun x hx => by unfold PX at hx; omega)) ⟨e6.ag C6 ⟨by omega, by omega⟩ ⟨by omega, by omega⟩, e7.ag C7 ⟨by omega, by omega⟩ ⟨by omega, by omega⟩, fun v hv => (by cases hv), fun v hv => (by cases hv)⟩ (fun j _ => hlo j) (it0 17) (by decide) false (it0 18) (fun bl i _ _ => rfl) rfl rfl rfl (fun q hq => (by cases hq)) on.1.2.2.1 on.1.2.2.2.2 (fun b i => by show 0 < 256; omega) (fun M15 a1 h15 e15 o15 => ⟨rfl, ?_⟩)
  refine vc_X 20 _ _ _ _ _ _ _ ?_
  simp only [↓v1_0, ↓v1_1, ↓v1_4, ↓v1_5, ↓v1_8, ↓v1_9, ↓v1_12, ↓v1_15, ↓v1_16, ↓v1_19, ↓v1_20, ↓v1_23, ↓v1_26, ↓v1_27, ↓v1_30, ↓v1_31, ↓v1_34, ↓v1_37, ↓v1_38, ↓v1_41, ↓v1_42, ↓v1_45, ↓v1_48, ↓v1_49, ↓v1_52, ↓v1_53, ↓v1_56, ↓v1_59, ↓v1_60, ↓v1_63, ↓v1_64, ↓v1_67, ↓v1_70, ↓v1_71, ↓v1_74, ↓v1_75, ↓v1_78, ↓v1_81, ↓v1_84, ↓v1_85, ↓v1_88, ↓v1_89, ↓v1_92, ↓v1_95, ↓v1_98, ↓v1_99, ↓v1_102, ↓v1_103, ↓v1_106, ↓v1_109, ↓v1_112, ↓v1_113, ↓v1_116, ↓v1_117, ↓v1_120, ↓v1_123, ↓v1_126, ↓v1_127, ↓v1_130, ↓v1_132, ↓v1_135, ↓v1_136, ↓v1_138, ↓v1_140, ↓v1_143, ↓v1_144, ↓v1_146, ↓v1_148, ↓v1_151, ↓v1_152, ↓v1_155, ↓v1_157, ↓v1_160, ↓v1_161, ↓v1_164, ↓qI_c, ↓qL_c, ↓qR_c, ↓pA_o, ↓qC_i, ↓qC_r, ↓oA_s, ↓gI_0, ↓gI_1, ↓gI_2, ↓gI_3, ↓gI_4, ↓gI_5, ↓gI_6, ↓gI_7, ↓gI_8, ↓gI_9, ↓gI_10, ↓gR_0, ↓gR_1, ↓gR_2, ↓gR_3, ↓gR_4, ↓gR_5, ↓gR_6, ↓gR_7, ↓gR_8, ↓gR_9, ↓gR_10, ↓sL_0, ↓sL_1, ↓sL_2, ↓sL_3, ↓sL_4, ↓sL_5, ↓sL_6, ↓sL_7, ↓sL_8, ↓sL_9, ↓sL_10, ↓rrf_si, ↓rrf_sg, ↓shO_si, ↓shO_sg, ↓shO_sr, ↓shA_si, ↓shA_sg, ↓shA_sr, ↓pAs_0, ↓pAs_i, ↓pAs_r, stk_n, stk_i, stk_l, stk_r, List.nil_append, List.cons_append, true_and, and_true, true_or, or_true, Nat.zero_add, dp_s, Nat.reduceAdd, le8_0, le8_1, le8_2, le8_3, le8_4, le8_5, le8_6, le8_7, le8_8, Classical.not_not, aT40, aT41, aT42, aT44, aT54, aT58, aT59, rT54, rT58, rT59, reduceIte, Nat.reduceEqDiff, qn_42, qn_44, true_implies, not_true_eq_false, not_false_eq_true, false_implies]
  refine hk M15 ⟨((fun _ => 0), b + 4, none), id, [], im, (fun _ => r00), a1, h15, fun bl i _ _ => rfl, rfl, rfl, ⟨rfl, fun k x w hx => by simp at hx⟩, rfl⟩ (by rw [o15.2.1, zf]) (by rw [o15.2.2.1]; exact lf) (AF.trans (o15.ag (R := fun y => ¬ (b ≤ y ∧ y < b + 279)) (fun _ h => h)) (fun x hx => by omega))
theorem c1 {d : Nat} {M : Mm} {k : mQ} {b : Nat} (h : M.sh b = some (0, 0)) (hb : b + 1 = M.sz) (h0 : ∀ j, M.it b j = 0) (hk : ∀ M', CM M' b ms0 → M'.sz = b + 279 → M'.sl ≤ M.sl + 8000 → Ag (fun y => y < M.sz ∧ y ≠ b) M M' → k none M') : XC (d + 7) 1 [.inr (some b)] M k := c1a h hb h0 (fun P im hm hd hq hc l3 l4 hi hA => c1b hb hm hd hq hc l3 l4 hi hA hk)
