/-! the class's constructor -/
def Stg (b i x n l : Nat) (M N : Mm) : Prop := (N.sz = M.sz + n ∧ N.sl = M.sl + l) ∧ Ag (fun y => y < M.sz ∧ y ≠ b) M N ∧ N.sh b = M.sh b ∧ (∀ j, N.it b j = M.it b j) ∧ ∀ j, N.rf b j = if j = i then some x else M.rf b j
theorem Stg.mk {b i n l : Nat} {M N1 N2 : Mm} {t : Nat × Nat} {tn : Nat} (h1 : M.nw t tn = N1) (g : Gw M.sz n l N1 N2) (hb : b < M.sz) : Stg b i M.sz (1 + n) (tn + l) M (N2.sr b i (some M.sz)) := by
  have a1 : Ag (fun y => y < M.sz) M N1 := by rw [← h1]; exact nw_ag _ _ _
  have z1 : N1.sz = M.sz + 1 := by rw [← h1]; rfl
  have l1 : N1.sl = M.sl + tn := by rw [← h1]; rfl
  have A : Ag (fun y => y < M.sz) M N2 := a1.trans g.2.2 (fun x hx => by have : x < M.sz := hx; omega)
  have o : Of (· = b) N2 (N2.sr b i (some M.sz)) := (Of.rf_ : Of (· = b) N2 N2).r rfl
  refine ⟨⟨by rw [o.2.1, g.1]; omega, by rw [o.2.2.1, g.2.1]; omega⟩, (A.mono (R := fun y => y < M.sz ∧ y ≠ b) (fun x hx => hx.1)).trans (o.ag (R := fun y => y ≠ b) (fun x hx hP => hx hP)) (fun x hx => hx.2), by rw [o.1]; exact A.sh hb, fun j => by rw [sr_it]; exact A.it hb j, fun j => ?_⟩
  rw [sr_rf]
  by_cases c : j = i
  · rw [if_pos ⟨rfl, c⟩, if_pos c]
  · rw [if_neg (fun q => c q.2), if_neg c]; exact A.rf hb j
theorem Stg.arr {b i : Nat} {M N1 : Mm} {t : Nat × Nat} {tn : Nat} (h1 : M.nw t tn = N1) (hb : b < M.sz) : Stg b i M.sz 1 tn M (N1.sr b i (some M.sz)) := by
  have := Stg.mk (b := b) (i := i) (n := 0) (l := 0) h1 ⟨rfl, rfl, fun x _ => ⟨rfl, fun j => ⟨rfl, rfl, rfl⟩⟩⟩ hb
  exact this
/-- half made -/
def Hm (M P : Mm) (b : Nat) : Prop := P.sh b = some (0, 0) ∧ P.sz = b + 267 ∧ P.sl = M.sl + 5239 ∧ P.rf b 0 = some (b + 1) ∧ P.rf b 1 = some (b + 7) ∧ P.rf b 2 = some (b + 249) ∧ P.rf b 3 = some (b + 251) ∧ P.rf b 4 = some (b + 253) ∧ ∀ j, P.it b j = 0
def Hd (P : Mm) (b : Nat) : Prop := DkC P (b + 1) (fun _ => 0) ∧ P.rf (b + 1 + 2) 0 = some (b + 1 + 3) ∧ P.rf (b + 1 + 2) 1 = none ∧ ReC P (b + 1 + 3) r00
theorem c1a {d : Nat} {M : Mm} {k : mQ} {b : Nat} (h : M.sh b = some (0, 0)) (hb : b + 1 = M.sz) (h0 : ∀ j, M.it b j = 0) (hk : ∀ (P : Mm) (im : Nat → Nat), Hm M P b → Hd P b → QuC P (b + 7) id 0 [] → CaC P (b + 249) [] 0 → LaC P (b + 251) (b + 252) (fun _ => 0) none → LaC P (b + 253) (b + 254) (fun _ => 0) none → IxC P (b + 255) im (fun _ => none) [] → Ag (fun y => y < M.sz ∧ y ≠ b) M P → X (d + 6) 1 67 [some (.inr (some b))] [.inr (.inr (some (b + 255))), .inr (.inr (some b))] P k) : XC (d + 7) 1 [.inr (some b)] M k := by
  have q : ∀ (M : Mm) (t : Nat × Nat) (n : Nat), (M.nw t n).sh M.sz = some t ∧ (∀ j, (M.nw t n).it M.sz j = 0) := fun M t n => ⟨by rw [nw_sh, if_pos rfl], fun j => by rw [nw_it, if_pos rfl]⟩
  refine xc ?_
  show X (d + 6) 1 0 [some (.inr (some b))] [] M k
  generalize hN0 : M.nw (3, 0) 2 = N0
  have z0 : M.sz = b + 1 := by omega
  obtain ⟨s0, i0⟩ := q M (3, 0) 2
  rw [hN0, z0] at s0
  rw [hN0, z0] at i0
  have y0 : N0.sz = b + 2 := by rw [← hN0]; show M.sz + 1 = _; omega
  refine vc_X 20 _ _ _ _ _ _ _ ?_
  simp only [↓v1_0, ↓v1_1, ↓v1_4, ↓v1_5, ↓v1_8, ↓v1_9, ↓v1_12, ↓v1_15, ↓v1_16, ↓v1_19, ↓v1_20, ↓v1_23, ↓v1_26, ↓v1_27, ↓v1_30, ↓v1_31, ↓v1_34, ↓v1_37, ↓v1_38, ↓v1_41, ↓v1_42, ↓v1_45, ↓v1_48, ↓v1_49, ↓v1_52, ↓v1_53, ↓v1_56, ↓v1_59, ↓v1_60, ↓v1_63, ↓v1_64, ↓v1_67, ↓v1_70, ↓v1_71, ↓v1_74, ↓v1_75, ↓v1_78, ↓v1_81, ↓v1_84, ↓v1_85, ↓v1_88, ↓v1_89, ↓v1_92, ↓v1_95, ↓v1_98, ↓v1_99, ↓v1_102, ↓v1_103, ↓v1_106, ↓v1_109, ↓v1_112, ↓v1_113, ↓v1_116, ↓v1_117, ↓v1_120, ↓v1_123, ↓v1_126, ↓v1_127, ↓v1_130, ↓v1_132, ↓v1_135, ↓v1_136, ↓v1_138, ↓v1_140, ↓v1_143, ↓v1_144, ↓v1_146, ↓v1_148, ↓v1_151, ↓v1_152, ↓v1_155, ↓v1_157, ↓v1_160, ↓v1_161, ↓v1_164, ↓qI_c, ↓qL_c, ↓qR_c, ↓pA_o, ↓qC_i, ↓qC_r, ↓oA_s, ↓gI_0, ↓gI_1, ↓gI_2, ↓gI_3, ↓gI_4, ↓gI_5, ↓gI_6, ↓gI_7, ↓gI_8, ↓gI_9, ↓gI_10, ↓gR_0, ↓gR_1, ↓gR_2, ↓gR_3, ↓gR_4, ↓gR_5, ↓gR_6, ↓gR_7, ↓gR_8, ↓gR_9, ↓gR_10, ↓sL_0, ↓sL_1, ↓sL_2, ↓sL_3, ↓sL_4, ↓sL_5, ↓sL_6, ↓sL_7, ↓sL_8, ↓sL_9, ↓sL_10, ↓rrf_si, ↓rrf_sg, ↓shO_si, ↓shO_sg, ↓shO_sr, ↓shA_si, ↓shA_sg, ↓shA_sr, ↓pAs_0, ↓pAs_i, ↓pAs_r, stk_n, stk_i, stk_l, stk_r, List.nil_append, List.cons_append, true_and, and_true, true_or, or_true, Nat.zero_add, dp_s, Nat.reduceAdd, le8_0, le8_1, le8_2, le8_3, le8_4, le8_5, le8_6, le8_7, le8_8, Classical.not_not, aT40, aT41, aT42, aT44, aT54, aT58, aT59, rT54, rT58, rT59, reduceIte, Nat.reduceEqDiff, qn_42, qn_44, true_implies, not_true_eq_false, not_false_eq_true, false_implies, hN0, z0]
  refine k3 s0 (by omega) (fun P0 p1 p2 p3 p4 g0 => ⟨rfl, ?_⟩)
  rw [← z0] at g0
  have t0 := Stg.mk (b := b) (i := 0) hN0 g0 (by omega)
  rw [z0] at t0
  have hP0 : P0.sh b = some (0, 0) := by have := t0.2.2.1; rw [show (P0.sr b 0 (some (b + 1))).sh = P0.sh from rfl] at this; rw [this]; exact h
  have a0 : Ag (fun y => y ≠ b) P0 (P0.sr b 0 (some (b + 1))) := ((Of.rf_ : Of (· = b) P0 P0).r rfl).ag (fun x hx hP => hx hP)
  generalize hM1 : P0.sr b 0 (some (b + 1)) = M1 at t0 a0
  have h1b : M1.sh b = some (0, 0) := by rw [t0.2.2.1]; exact h
  generalize hN1 : M1.nw (7, 0) 3 = N1
  have z1 : M1.sz = b + 7 := by rw [t0.1.1, z0]
  obtain ⟨s1, i1⟩ := q M1 (7, 0) 3
  rw [hN1, z1] at s1
  rw [hN1, z1] at i1
  have y1 : N1.sz = b + 8 := by rw [← hN1]; show M1.sz + 1 = _; omega
  refine vc_X 20 _ _ _ _ _ _ _ ?_
  simp only [↓v1_0, ↓v1_1, ↓v1_4, ↓v1_5, ↓v1_8, ↓v1_9, ↓v1_12, ↓v1_15, ↓v1_16, ↓v1_19, ↓v1_20, ↓v1_23, ↓v1_26, ↓v1_27, ↓v1_30, ↓v1_31, ↓v1_34, ↓v1_37, ↓v1_38, ↓v1_41, ↓v1_42, ↓v1_45, ↓v1_48, ↓v1_49, ↓v1_52, ↓v1_53, ↓v1_56, ↓v1_59, ↓v1_60, ↓v1_63, ↓v1_64, ↓v1_67, ↓v1_70, ↓v1_71, ↓v1_74, ↓v1_75, ↓v1_78, ↓v1_81, ↓v1_84, ↓v1_85, ↓v1_88, ↓v1_89, ↓v1_92, ↓v1_95, ↓v1_98, ↓v1_99, ↓v1_102, ↓v1_103, ↓v1_106, ↓v1_109, ↓v1_112, ↓v1_113, ↓v1_116, ↓v1_117, ↓v1_120, ↓v1_123, ↓v1_126, ↓v1_127, ↓v1_130, ↓v1_132, ↓v1_135, ↓v1_136, ↓v1_138, ↓v1_140, ↓v1_143, ↓v1_144, ↓v1_146, ↓v1_148, ↓v1_151, ↓v1_152, ↓v1_155, ↓v1_157, ↓v1_160, ↓v1_161, ↓v1_164, ↓qI_c, ↓qL_c, ↓qR_c, ↓pA_o, ↓qC_i, ↓qC_r, ↓oA_s, ↓gI_0, ↓gI_1, ↓gI_2, ↓gI_3, ↓gI_4, ↓gI_5, ↓gI_6, ↓gI_7, ↓gI_8, ↓gI_9, ↓gI_10, ↓gR_0, ↓gR_1, ↓gR_2, ↓gR_3, ↓gR_4, ↓gR_5, ↓gR_6, ↓gR_7, ↓gR_8, ↓gR_9, ↓gR_10, ↓sL_0, ↓sL_1, ↓sL_2, ↓sL_3, ↓sL_4, ↓sL_5, ↓sL_6, ↓sL_7, ↓sL_8, ↓sL_9, ↓sL_10, ↓rrf_si, ↓rrf_sg, ↓shO_si, ↓shO_sg, ↓shO_sr, ↓shA_si, ↓shA_sg, ↓shA_sr, ↓pAs_0, ↓pAs_i, ↓pAs_r, stk_n, stk_i, stk_l, stk_r, List.nil_append, List.cons_append, true_and, and_true, true_or, or_true, Nat.zero_add, dp_s, Nat.reduceAdd, le8_0, le8_1, le8_2, le8_3, le8_4, le8_5, le8_6, le8_7, le8_8, Classical.not_not, aT40, aT41, aT42, aT44, aT54, aT58, aT59, rT54, rT58, rT59, reduceIte, Nat.reduceEqDiff, qn_42, qn_44, true_implies, not_true_eq_false, not_false_eq_true, false_implies, ↓shO_of hP0, hM1, hN1, z1]
  refine k5 s1 (by omega) (i1 1) (i1 2) (fun P1 e1 g1 => ⟨rfl, ?_⟩)
  rw [← z1] at g1
  have t1 := Stg.mk (b := b) (i := 1) hN1 g1 (by omega)
  rw [z1] at t1
  have hP1 : P1.sh b = some (0, 0) := by have := t1.2.2.1; rw [show (P1.sr b 1 (some (b + 7))).sh = P1.sh from rfl] at this; rw [this]; exact h1b
  have a1 : Ag (fun y => y ≠ b) P1 (P1.sr b 1 (some (b + 7))) := ((Of.rf_ : Of (· = b) P1 P1).r rfl).ag (fun x hx hP => hx hP)
  generalize hM2 : P1.sr b 1 (some (b + 7)) = M2 at t1 a1
  have h2b : M2.sh b = some (0, 0) := by rw [t1.2.2.1]; exact h1b
  generalize hN2 : M2.nw (2, 0) 3 = N2
  have z2 : M2.sz = b + 249 := by rw [t1.1.1, z1]
  obtain ⟨s2, i2⟩ := q M2 (2, 0) 3
  rw [hN2, z2] at s2
  rw [hN2, z2] at i2
  have y2 : N2.sz = b + 250 := by rw [← hN2]; show M2.sz + 1 = _; omega
  refine vc_X 20 _ _ _ _ _ _ _ ?_
  simp only [↓v1_0, ↓v1_1, ↓v1_4, ↓v1_5, ↓v1_8, ↓v1_9, ↓v1_12, ↓v1_15, ↓v1_16, ↓v1_19, ↓v1_20, ↓v1_23, ↓v1_26, ↓v1_27, ↓v1_30, ↓v1_31, ↓v1_34, ↓v1_37, ↓v1_38, ↓v1_41, ↓v1_42, ↓v1_45, ↓v1_48, ↓v1_49, ↓v1_52, ↓v1_53, ↓v1_56, ↓v1_59, ↓v1_60, ↓v1_63, ↓v1_64, ↓v1_67, ↓v1_70, ↓v1_71, ↓v1_74, ↓v1_75, ↓v1_78, ↓v1_81, ↓v1_84, ↓v1_85, ↓v1_88, ↓v1_89, ↓v1_92, ↓v1_95, ↓v1_98, ↓v1_99, ↓v1_102, ↓v1_103, ↓v1_106, ↓v1_109, ↓v1_112, ↓v1_113, ↓v1_116, ↓v1_117, ↓v1_120, ↓v1_123, ↓v1_126, ↓v1_127, ↓v1_130, ↓v1_132, ↓v1_135, ↓v1_136, ↓v1_138, ↓v1_140, ↓v1_143, ↓v1_144, ↓v1_146, ↓v1_148, ↓v1_151, ↓v1_152, ↓v1_155, ↓v1_157, ↓v1_160, ↓v1_161, ↓v1_164, ↓qI_c, ↓qL_c, ↓qR_c, ↓pA_o, ↓qC_i, ↓qC_r, ↓oA_s, ↓gI_0, ↓gI_1, ↓gI_2, ↓gI_3, ↓gI_4, ↓gI_5, ↓gI_6, ↓gI_7, ↓gI_8, ↓gI_9, ↓gI_10, ↓gR_0, ↓gR_1, ↓gR_2, ↓gR_3, ↓gR_4, ↓gR_5, ↓gR_6, ↓gR_7, ↓gR_8, ↓gR_9, ↓gR_10, ↓sL_0, ↓sL_1, ↓sL_2, ↓sL_3, ↓sL_4, ↓sL_5, ↓sL_6, ↓sL_7, ↓sL_8, ↓sL_9, ↓sL_10, ↓rrf_si, ↓rrf_sg, ↓shO_si, ↓shO_sg, ↓shO_sr, ↓shA_si, ↓shA_sg, ↓shA_sr, ↓pAs_0, ↓pAs_i, ↓pAs_r, stk_n, stk_i, stk_l, stk_r, List.nil_append, List.cons_append, true_and, and_true, true_or, or_true, Nat.zero_add, dp_s, Nat.reduceAdd, le8_0, le8_1, le8_2, le8_3, le8_4, le8_5, le8_6, le8_7, le8_8, Classical.not_not, aT40, aT41, aT42, aT44, aT54, aT58, aT59, rT54, rT58, rT59, reduceIte, Nat.reduceEqDiff, qn_42, qn_44, true_implies, not_true_eq_false, not_false_eq_true, false_implies, ↓shO_of hP1, hM2, hN2, z2]
  refine k7 s2 (by omega) (i2 1) (i2 2) (fun P2 e2 g2 => ⟨rfl, ?_⟩)
  rw [← z2] at g2
  have t2 := Stg.mk (b := b) (i := 2) hN2 g2 (by omega)
  rw [z2] at t2
  have hP2 : P2.sh b = some (0, 0) := by have := t2.2.2.1; rw [show (P2.sr b 2 (some (b + 249))).sh = P2.sh from rfl] at this; rw [this]; exact h2b
  have a2 : Ag (fun y => y ≠ b) P2 (P2.sr b 2 (some (b + 249))) := ((Of.rf_ : Of (· = b) P2 P2).r rfl).ag (fun x hx hP => hx hP)
  generalize hM3 : P2.sr b 2 (some (b + 249)) = M3 at t2 a2
  have h3b : M3.sh b = some (0, 0) := by rw [t2.2.2.1]; exact h2b
  generalize hN3 : M3.nw (6, 0) 2 = N3
  have z3 : M3.sz = b + 251 := by rw [t2.1.1, z2]
  obtain ⟨s3, i3⟩ := q M3 (6, 0) 2
  rw [hN3, z3] at s3
  rw [hN3, z3] at i3
  have y3 : N3.sz = b + 252 := by rw [← hN3]; show M3.sz + 1 = _; omega
  refine vc_X 20 _ _ _ _ _ _ _ ?_
  simp only [↓v1_0, ↓v1_1, ↓v1_4, ↓v1_5, ↓v1_8, ↓v1_9, ↓v1_12, ↓v1_15, ↓v1_16, ↓v1_19, ↓v1_20, ↓v1_23, ↓v1_26, ↓v1_27, ↓v1_30, ↓v1_31, ↓v1_34, ↓v1_37, ↓v1_38, ↓v1_41, ↓v1_42, ↓v1_45, ↓v1_48, ↓v1_49, ↓v1_52, ↓v1_53, ↓v1_56, ↓v1_59, ↓v1_60, ↓v1_63, ↓v1_64, ↓v1_67, ↓v1_70, ↓v1_71, ↓v1_74, ↓v1_75, ↓v1_78, ↓v1_81, ↓v1_84, ↓v1_85, ↓v1_88, ↓v1_89, ↓v1_92, ↓v1_95, ↓v1_98, ↓v1_99, ↓v1_102, ↓v1_103, ↓v1_106, ↓v1_109, ↓v1_112, ↓v1_113, ↓v1_116, ↓v1_117, ↓v1_120, ↓v1_123, ↓v1_126, ↓v1_127, ↓v1_130, ↓v1_132, ↓v1_135, ↓v1_136, ↓v1_138, ↓v1_140, ↓v1_143, ↓v1_144, ↓v1_146, ↓v1_148, ↓v1_151, ↓v1_152, ↓v1_155, ↓v1_157, ↓v1_160, ↓v1_161, ↓v1_164, ↓qI_c, ↓qL_c, ↓qR_c, ↓pA_o, ↓qC_i, ↓qC_r, ↓oA_s, ↓gI_0, ↓gI_1, ↓gI_2, ↓gI_3, ↓gI_4, ↓gI_5, ↓gI_6, ↓gI_7, ↓gI_8, ↓gI_9, ↓gI_10, ↓gR_0, ↓gR_1, ↓gR_2, ↓gR_3, ↓gR_4, ↓gR_5, ↓gR_6, ↓gR_7, ↓gR_8, ↓gR_9, ↓gR_10, ↓sL_0, ↓sL_1, ↓sL_2, ↓sL_3, ↓sL_4, ↓sL_5, ↓sL_6, ↓sL_7, ↓sL_8, ↓sL_9, ↓sL_10, ↓rrf_si, ↓rrf_sg, ↓shO_si, ↓shO_sg, ↓shO_sr, ↓shA_si, ↓shA_sg, ↓shA_sr, ↓pAs_0, ↓pAs_i, ↓pAs_r, stk_n, stk_i, stk_l, stk_r, List.nil_append, List.cons_append, true_and, and_true, true_or, or_true, Nat.zero_add, dp_s, Nat.reduceAdd, le8_0, le8_1, le8_2, le8_3, le8_4, le8_5, le8_6, le8_7, le8_8, Classical.not_not, aT40, aT41, aT42, aT44, aT54, aT58, aT59, rT54, rT58, rT59, reduceIte, Nat.reduceEqDiff, qn_42, qn_44, true_implies, not_true_eq_false, not_false_eq_true, false_implies, ↓shO_of hP2, hM3, hN3, z3]
  refine k8 s3 (by omega) (fun P3 e3 g3 => ⟨rfl, ?_⟩)
  rw [y3] at e3
  rw [← z3] at g3
  have t3 := Stg.mk (b := b) (i := 3) hN3 g3 (by omega)
  rw [z3] at t3
  have hP3 : P3.sh b = some (0, 0) := by have := t3.2.2.1; rw [show (P3.sr b 3 (some (b + 251))).sh = P3.sh from rfl] at this; rw [this]; exact h3b
  have a3 : Ag (fun y => y ≠ b) P3 (P3.sr b 3 (some (b + 251))) := ((Of.rf_ : Of (· = b) P3 P3).r rfl).ag (fun x hx hP => hx hP)
  generalize hM4 : P3.sr b 3 (some (b + 251)) = M4 at t3 a3
  have h4b : M4.sh b = some (0, 0) := by rw [t3.2.2.1]; exact h3b
  generalize hN4 : M4.nw (6, 0) 2 = N4
  have z4 : M4.sz = b + 253 := by rw [t3.1.1, z3]
  obtain ⟨s4, i4⟩ := q M4 (6, 0) 2
  rw [hN4, z4] at s4
  rw [hN4, z4] at i4
  have y4 : N4.sz = b + 254 := by rw [← hN4]; show M4.sz + 1 = _; omega
  refine vc_X 20 _ _ _ _ _ _ _ ?_
  simp only [↓v1_0, ↓v1_1, ↓v1_4, ↓v1_5, ↓v1_8, ↓v1_9, ↓v1_12, ↓v1_15, ↓v1_16, ↓v1_19, ↓v1_20, ↓v1_23, ↓v1_26, ↓v1_27, ↓v1_30, ↓v1_31, ↓v1_34, ↓v1_37, ↓v1_38, ↓v1_41, ↓v1_42, ↓v1_45, ↓v1_48, ↓v1_49, ↓v1_52, ↓v1_53, ↓v1_56, ↓v1_59, ↓v1_60, ↓v1_63, ↓v1_64, ↓v1_67, ↓v1_70, ↓v1_71, ↓v1_74, ↓v1_75, ↓v1_78, ↓v1_81, ↓v1_84, ↓v1_85, ↓v1_88, ↓v1_89, ↓v1_92, ↓v1_95, ↓v1_98, ↓v1_99, ↓v1_102, ↓v1_103, ↓v1_106, ↓v1_109, ↓v1_112, ↓v1_113, ↓v1_116, ↓v1_117, ↓v1_120, ↓v1_123, ↓v1_126, ↓v1_127, ↓v1_130, ↓v1_132, ↓v1_135, ↓v1_136, ↓v1_138, ↓v1_140, ↓v1_143, ↓v1_144, ↓v1_146, ↓v1_148, ↓v1_151, ↓v1_152, ↓v1_155, ↓v1_157, ↓v1_160, ↓v1_161, ↓v1_164, ↓qI_c, ↓qL_c, ↓qR_c, ↓pA_o, ↓qC_i, ↓qC_r, ↓oA_s, ↓gI_0, ↓gI_1, ↓gI_2, ↓gI_3, ↓gI_4, ↓gI_5, ↓gI_6, ↓gI_7, ↓gI_8, ↓gI_9, ↓gI_10, ↓gR_0, ↓gR_1, ↓gR_2, ↓gR_3, ↓gR_4, ↓gR_5, ↓gR_6, ↓gR_7, ↓gR_8, ↓gR_9, ↓gR_10, ↓sL_0, ↓sL_1, ↓sL_2, ↓sL_3, ↓sL_4, ↓sL_5, ↓sL_6, ↓sL_7, ↓sL_8, ↓sL_9, ↓sL_10, ↓rrf_si, ↓rrf_sg, ↓shO_si, ↓shO_sg, ↓shO_sr, ↓shA_si, ↓shA_sg, ↓shA_sr, ↓pAs_0, ↓pAs_i, ↓pAs_r, stk_n, stk_i, stk_l, stk_r, List.nil_append, List.cons_append, true_and, and_true, true_or, or_true, Nat.zero_add, dp_s, Nat.reduceAdd, le8_0, le8_1, le8_2, le8_3, le8_4, le8_5, le8_6, le8_7, le8_8, Classical.not_not, aT40, aT41, aT42, aT44, aT54, aT58, aT59, rT54, rT58, rT59, reduceIte, Nat.reduceEqDiff, qn_42, qn_44, true_implies, not_true_eq_false, not_false_eq_true, false_implies, ↓shO_of hP3, hM4, hN4, z4]
  refine k8 s4 (by omega) (fun P4 e4 g4 => ⟨rfl, ?_⟩)
  rw [y4] at e4
  rw [← z4] at g4
  have t4 := Stg.mk (b := b) (i := 4) hN4 g4 (by omega)
  rw [z4] at t4
  have hP4 : P4.sh b = some (0, 0) := by have := t4.2.2.1; rw [show (P4.sr b 4 (some (b + 253))).sh = P4.sh from rfl] at this; rw [this]; exact h4b
  have a4 : Ag (fun y => y ≠ b) P4 (P4.sr b 4 (some (b + 253))) := ((Of.rf_ : Of (· = b) P4 P4).r rfl).ag (fun x hx hP => hx hP)
  generalize hM5 : P4.sr b 4 (some (b + 253)) = M5 at t4 a4
  have h5b : M5.sh b = some (0, 0) := by rw [t4.2.2.1]; exact h4b
  generalize hN5 : M5.nw (5, 0) 4 = N5
  have z5 : M5.sz = b + 255 := by rw [t4.1.1, z4]
  obtain ⟨s5, i5⟩ := q M5 (5, 0) 4
  rw [hN5, z5] at s5
  rw [hN5, z5] at i5
  have y5 : N5.sz = b + 256 := by rw [← hN5]; show M5.sz + 1 = _; omega
  refine vc_X 20 _ _ _ _ _ _ _ ?_
  simp only [↓v1_0, ↓v1_1, ↓v1_4, ↓v1_5, ↓v1_8, ↓v1_9, ↓v1_12, ↓v1_15, ↓v1_16, ↓v1_19, ↓v1_20, ↓v1_23, ↓v1_26, ↓v1_27, ↓v1_30, ↓v1_31, ↓v1_34, ↓v1_37, ↓v1_38, ↓v1_41, ↓v1_42, ↓v1_45, ↓v1_48, ↓v1_49, ↓v1_52, ↓v1_53, ↓v1_56, ↓v1_59, ↓v1_60, ↓v1_63, ↓v1_64, ↓v1_67, ↓v1_70, ↓v1_71, ↓v1_74, ↓v1_75, ↓v1_78, ↓v1_81, ↓v1_84, ↓v1_85, ↓v1_88, ↓v1_89, ↓v1_92, ↓v1_95, ↓v1_98, ↓v1_99, ↓v1_102, ↓v1_103, ↓v1_106, ↓v1_109, ↓v1_112, ↓v1_113, ↓v1_116, ↓v1_117, ↓v1_120, ↓v1_123, ↓v1_126, ↓v1_127, ↓v1_130, ↓v1_132, ↓v1_135, ↓v1_136, ↓v1_138, ↓v1_140, ↓v1_143, ↓v1_144, ↓v1_146, ↓v1_148, ↓v1_151, ↓v1_152, ↓v1_155, ↓v1_157, ↓v1_160, ↓v1_161, ↓v1_164, ↓qI_c, ↓qL_c, ↓qR_c, ↓pA_o, ↓qC_i, ↓qC_r, ↓oA_s, ↓gI_0, ↓gI_1, ↓gI_2, ↓gI_3, ↓gI_4, ↓gI_5, ↓gI_6, ↓gI_7, ↓gI_8, ↓gI_9, ↓gI_10, ↓gR_0, ↓gR_1, ↓gR_2, ↓gR_3, ↓gR_4, ↓gR_5, ↓gR_6, ↓gR_7, ↓gR_8, ↓gR_9, ↓gR_10, ↓sL_0, ↓sL_1, ↓sL_2, ↓sL_3, ↓sL_4, ↓sL_5, ↓sL_6, ↓sL_7, ↓sL_8, ↓sL_9, ↓sL_10, ↓rrf_si, ↓rrf_sg, ↓shO_si, ↓shO_sg, ↓shO_sr, ↓shA_si, ↓shA_sg, ↓shA_sr, ↓pAs_0, ↓pAs_i, ↓pAs_r, stk_n, stk_i, stk_l, stk_r, List.nil_append, List.cons_append, true_and, and_true, true_or, or_true, Nat.zero_add, dp_s, Nat.reduceAdd, le8_0, le8_1, le8_2, le8_3, le8_4, le8_5, le8_6, le8_7, le8_8, Classical.not_not, aT40, aT41, aT42, aT44, aT54, aT58, aT59, rT54, rT58, rT59, reduceIte, Nat.reduceEqDiff, qn_42, qn_44, true_implies, not_true_eq_false, not_false_eq_true, false_implies, ↓shO_of hP4, hM5, hN5, z5]
  refine k9 s5 (by omega) (i5 2) (fun P5 im e5 g5 => ⟨rfl, ?_⟩)
  have z5' : N5.sz = b + 256 := y5
  have A5 : Ag (fun y => y < b + 255) M5 P5 := (show Ag (fun y => y < b + 255) M5 N5 by rw [← hN5]; exact (nw_ag M5 _ _).mono (fun x hx => by have : x < b + 255 := hx; show x < M5.sz; omega)).trans g5.2.2 (fun x hx => by have : x < b + 255 := hx; omega)
  have B4 : Ag (fun y => y < b + 253 ∧ y ≠ b) M4 P5 := (t4.2.1.mono (R := fun y => y < b + 253 ∧ y ≠ b) (fun x hx => by rw [z4]; exact hx)).trans A5 (fun x hx => Nat.lt_of_lt_of_le hx.1 (Nat.add_le_add_left (by decide) b))
  have B3 : Ag (fun y => y < b + 251 ∧ y ≠ b) M3 P5 := (t3.2.1.mono (R := fun y => y < b + 251 ∧ y ≠ b) (fun x hx => by rw [z3]; exact hx)).trans B4 (fun x hx => ⟨Nat.lt_of_lt_of_le hx.1 (Nat.add_le_add_left (by decide) b), hx.2⟩)
  have B2 : Ag (fun y => y < b + 249 ∧ y ≠ b) M2 P5 := (t2.2.1.mono (R := fun y => y < b + 249 ∧ y ≠ b) (fun x hx => by rw [z2]; exact hx)).trans B3 (fun x hx => ⟨Nat.lt_of_lt_of_le hx.1 (Nat.add_le_add_left (by decide) b), hx.2⟩)
  have B1 : Ag (fun y => y < b + 7 ∧ y ≠ b) M1 P5 := (t1.2.1.mono (R := fun y => y < b + 7 ∧ y ≠ b) (fun x hx => by rw [z1]; exact hx)).trans B2 (fun x hx => ⟨Nat.lt_of_lt_of_le hx.1 (Nat.add_le_add_left (by decide) b), hx.2⟩)
  have B0 : Ag (fun y => y < b + 1 ∧ y ≠ b) M P5 := (t0.2.1.mono (R := fun y => y < b + 1 ∧ y ≠ b) (fun x hx => by rw [z0]; exact hx)).trans B1 (fun x hx => ⟨Nat.lt_of_lt_of_le hx.1 (Nat.add_le_add_left (by decide) b), hx.2⟩)
  have C0 : Ag (fun y => y < b + 7 ∧ y ≠ b) P0 P5 := (a0.mono (R := fun y => y < b + 7 ∧ y ≠ b) (fun x hx => hx.2)).trans B1 (fun x hx => hx)
  have C1 : Ag (fun y => y < b + 249 ∧ y ≠ b) P1 P5 := (a1.mono (R := fun y => y < b + 249 ∧ y ≠ b) (fun x hx => hx.2)).trans B2 (fun x hx => hx)
  have C2 : Ag (fun y => y < b + 251 ∧ y ≠ b) P2 P5 := (a2.mono (R := fun y => y < b + 251 ∧ y ≠ b) (fun x hx => hx.2)).trans B3 (fun x hx => hx)
  have C3 : Ag (fun y => y < b + 253 ∧ y ≠ b) P3 P5 := (a3.mono (R := fun y => y < b + 253 ∧ y ≠ b) (fun x hx => hx.2)).trans B4 (fun x hx => hx)
  have C4 : Ag (fun y => y < b + 255 ∧ y ≠ b) P4 P5 := (a4.mono (R := fun y => y < b + 255 ∧ y ≠ b) (fun x hx => hx.2)).trans A5 (fun x hx => hx.1)
  have bb : b < b + 255 := by omega
  have r0 : P5.rf b 0 = some (b + 1) := by rw [A5.rf bb, t4.2.2.2.2, if_neg (by decide), t3.2.2.2.2, if_neg (by decide), t2.2.2.2.2, if_neg (by decide), t1.2.2.2.2, if_neg (by decide), t0.2.2.2.2, if_pos rfl]
  have r1 : P5.rf b 1 = some (b + 7) := by rw [A5.rf bb, t4.2.2.2.2, if_neg (by decide), t3.2.2.2.2, if_neg (by decide), t2.2.2.2.2, if_neg (by decide), t1.2.2.2.2, if_pos rfl]
  have r2 : P5.rf b 2 = some (b + 249) := by rw [A5.rf bb, t4.2.2.2.2, if_neg (by decide), t3.2.2.2.2, if_neg (by decide), t2.2.2.2.2, if_pos rfl]
  have r3 : P5.rf b 3 = some (b + 251) := by rw [A5.rf bb, t4.2.2.2.2, if_neg (by decide), t3.2.2.2.2, if_pos rfl]
  have r4 : P5.rf b 4 = some (b + 253) := by rw [A5.rf bb, t4.2.2.2.2, if_pos rfl]
  have it0 : ∀ j, P5.it b j = 0 := fun j => by rw [A5.it bb, t4.2.2.2.1, t3.2.2.2.1, t2.2.2.2.1, t1.2.2.2.1, t0.2.2.2.1]; exact h0 j
  have lf : P5.sl = M.sl + 5239 := by rw [g5.2.1, ← hN5]; show M5.sl + 4 + 258 = _; rw [t4.1.2, t3.1.2, t2.1.2, t1.1.2, t0.1.2]
  have zf : P5.sz = b + 267 := by rw [g5.1, y5]
  have sb : P5.sh b = some (0, 0) := by rw [A5.sh bb]; exact h5b
  clear t0 t1 t2 t3 t4 y0 y1 y2 y3 y4 z5' B1 B2 B3 B4 A5 i0 i1 i2 i3 i4 i5 z1 z2 z3 z4 z5
  refine hk P5 im ⟨sb, zf, lf, r0, r1, r2, r3, r4, it0⟩ ⟨p1.ag C0 (by omega) (by omega) (by omega), ?_, ?_, p4.ag C0 (by omega) (by omega) (by omega)⟩ (e1.ag C1 (fun x hx => by unfold PQ at hx; omega)) (e2.ag C2 (by omega) (by omega)) (e3.ag C3 (by omega) (by omega)) (e4.ag C4 (by omega) (by omega)) e5 (B0.mono (fun x hx => by omega))
  · rw [C0.rf (by omega)]; exact p2
  · rw [C0.rf (by omega)]; exact p3
